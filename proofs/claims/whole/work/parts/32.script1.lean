/-- the value of X4_length, path by path -/
def fX4_length (len : Int32) : Int32 :=
  len

set_option maxHeartbeats 4000000 in
set_option maxRecDepth 100000 in
/-- X4_length -/
theorem mX4_length (l : Launch) (D : va_G) (cI cC cS : ClassId) (sz : Nat) (cs : Nat) (ck : Nat) (cn : Nat) (ad : Nat → Nat) (Cf : Nat → Int32) (Nf : Nat → Int32) (len : Int32) (vb : Option Nat) (pos : Int32)  : Met l yX4_length wsX4_length ({ frames := 0, cells := 0, slots := 0, locals := 0 } : Jvm.Room) (va_Pc [.ref cs] (wPre D (TY cI cC cS) [(cs, .inr (3, [.ref ck, .ref cn, .int len, va_re ad vb, .int pos])), (ck, .inl (cC, 80, .inl Cf)), (cn, .inl (cI, 5, .inl Nf))] sz wN)) (qI D (TY cI cC cS) (fun (r : Int32) (u : Int32) => fX4_length len = u ∧ r = u) (fun u => [(cs, .inr (3, [.ref ck, .ref cn, .int len, va_re ad vb, .int pos])), (ck, .inl (cC, 80, .inl Cf)), (cn, .inl (cI, 5, .inl Nf))]) (va_A [(cs, .inr (3, [.ref ck, .ref cn, .int len, va_re ad vb, .int pos])), (ck, .inl (cC, 80, .inl Cf)), (cn, .inl (cI, 5, .inl Nf))] sz)) 0 0 (va_A [(cs, .inr (3, [.ref ck, .ref cn, .int len, va_re ad vb, .int pos])), (ck, .inl (cC, 80, .inl Cf)), (cn, .inl (cI, 5, .inl Nf))] sz) := by
  refine mkM (y := yX4_length) (wsl := wsX4_length) (fun Fr => qI D (TY cI cC cS) (fun (r : Int32) (u : Int32) => fX4_length len = u ∧ r = u) (fun u => [(cs, .inr (3, [.ref ck, .ref cn, .int len, va_re ad vb, .int pos])), (ck, .inl (cC, 80, .inl Cf)), (cn, .inl (cI, 5, .inl Nf))]) Fr) (cc := cX4_length) (maxL := 1) (ret := (some .int)) (own := RX4) (lv := [(0, .ref cs)]) (by decide) rfl rfl (Nat.le_of_ble_eq_true rfl) rfl ?_
  intro p e s m below meth c Fr ls hx hb hr hts hown hml hlk hin hP hK hD hS hA hAe hsz hX hl
  have w_1 := hts (.fieldLink RX4 19 "FieldQuotas$Script" "length" "I") (List.mem_of_getElem? (i := 1) rfl)
  have w_2 := sub_r (big := wsX4_length) (u_ws RX4 TX4 5) [2, 3, 4, 5, 6] rfl
  refine lv_aload_n hx hb dX4_length_0 rfl (lv_at hl 0 rfl) ?_
  refine va_get (D := D) (ci := 3) (C := RX4) (T := TX4) (N := 5) hx hb hts w_2 hown hK hP 0 rfl rfl 2 (by decide) w_1 (fun _ h9 => h9) rfl dX4_length_1 ?_
  exact endI hx hb hr hlk hP hK hD hS dX4_length_4 len rfl ⟨rfl, rfl⟩

/-- the value of X4_clear, path by path -/
def fX4_clear (len : Int32) : Int32 × Int32 :=
  (len, 0)

set_option maxHeartbeats 4000000 in
set_option maxRecDepth 100000 in
/-- X4_clear -/
theorem mX4_clear (l : Launch) (D : va_G) (cI cC cS : ClassId) (sz : Nat) (cs : Nat) (ck : Nat) (cn : Nat) (ad : Nat → Nat) (Cf : Nat → Int32) (Nf : Nat → Int32) (len : Int32) (vb : Option Nat) (pos : Int32)  : Met l yX4_clear wsX4_clear ({ frames := 0, cells := 0, slots := 0, locals := 0 } : Jvm.Room) (va_Pc [.ref cs] (wPre D (TY cI cC cS) [(cs, .inr (3, [.ref ck, .ref cn, .int len, va_re ad vb, .int pos])), (ck, .inl (cC, 80, .inl Cf)), (cn, .inl (cI, 5, .inl Nf))] sz wN)) (qI D (TY cI cC cS) (fun (r : Int32) (u : Int32 × Int32) => fX4_clear len = u ∧ r = u.1) (fun u => [(cs, .inr (3, [.ref ck, .ref cn, .int u.2, va_re ad vb, .int pos])), (ck, .inl (cC, 80, .inl Cf)), (cn, .inl (cI, 5, .inl Nf))]) (va_A [(cs, .inr (3, [.ref ck, .ref cn, .int len, va_re ad vb, .int pos])), (ck, .inl (cC, 80, .inl Cf)), (cn, .inl (cI, 5, .inl Nf))] sz)) 0 0 (va_A [(cs, .inr (3, [.ref ck, .ref cn, .int len, va_re ad vb, .int pos])), (ck, .inl (cC, 80, .inl Cf)), (cn, .inl (cI, 5, .inl Nf))] sz) := by
  refine mkM (y := yX4_clear) (wsl := wsX4_clear) (fun Fr => qI D (TY cI cC cS) (fun (r : Int32) (u : Int32 × Int32) => fX4_clear len = u ∧ r = u.1) (fun u => [(cs, .inr (3, [.ref ck, .ref cn, .int u.2, va_re ad vb, .int pos])), (ck, .inl (cC, 80, .inl Cf)), (cn, .inl (cI, 5, .inl Nf))]) Fr) (cc := cX4_clear) (maxL := 2) (ret := (some .int)) (own := RX4) (lv := [(0, .ref cs)]) (by decide) rfl rfl (Nat.le_of_ble_eq_true rfl) rfl ?_
  intro p e s m below meth c Fr ls hx hb hr hts hown hml hlk hin hP hK hD hS hA hAe hsz hX hl
  have w_1 := hts (.fieldLink RX4 19 "FieldQuotas$Script" "length" "I") (List.mem_of_getElem? (i := 1) rfl)
  have w_2 := sub_r (big := wsX4_clear) (u_ws RX4 TX4 5) [2, 3, 4, 5, 6] rfl
  refine lv_aload_n hx hb dX4_clear_0 rfl (lv_at hl 0 rfl) ?_
  refine va_get (D := D) (ci := 3) (C := RX4) (T := TX4) (N := 5) hx hb hts w_2 hown hK hP 0 rfl rfl 2 (by decide) w_1 (fun _ h9 => h9) rfl dX4_clear_1 ?_
  refine lv_istore_n (lv' := [(1, .int len), (0, .ref cs)]) hx hb dX4_clear_4 rfl hl (by decide) rfl (fun ls hl => ?_)
  refine lv_aload_n hx hb dX4_clear_5 rfl (lv_at hl 1 rfl) ?_
  refine lv_iconst (v := 0) hx hb dX4_clear_6 (by decide) ?_
  refine va_put (D := D) (ci := 3) (v := .int 0) (ty := .int) (C := RX4) (T := TX4) (N := 5) hx hb hts w_2 tyX4 tyX4_ok nmX4 hown hK hP hD hS 0 rfl rfl 2 (by decide) w_1 (fun _ h9 => h9) rfl (by decide +kernel) rfl rfl (Nat.le_of_ble_eq_true rfl) dX4_clear_7 (fun H locs hP hD hS => ?_)
  have hP : va_P D vwCl [(cs, .inr (3, [.ref ck, .ref cn, .int 0, va_re ad vb, .int pos])), (ck, .inl (cC, 80, .inl Cf)), (cn, .inl (cI, 5, .inl Nf))] H := hP
  have hD : va_D Fr [(cs, .inr (3, [.ref ck, .ref cn, .int 0, va_re ad vb, .int pos])), (ck, .inl (cC, 80, .inl Cf)), (cn, .inl (cI, 5, .inl Nf))] := hD
  refine lv_iload_n hx hb dX4_clear_10 rfl (lv_at hl 0 rfl) ?_
  exact endI hx hb hr hlk hP hK hD hS dX4_clear_11 (len, 0) rfl ⟨rfl, rfl⟩

/-- the value of X4_position, path by path -/
def fX4_position (pos : Int32) : Int32 :=
  pos

set_option maxHeartbeats 4000000 in
set_option maxRecDepth 100000 in
/-- X4_position -/
theorem mX4_position (l : Launch) (D : va_G) (cI cC cS : ClassId) (sz : Nat) (cs : Nat) (ck : Nat) (cn : Nat) (ad : Nat → Nat) (Cf : Nat → Int32) (Nf : Nat → Int32) (len : Int32) (vb : Option Nat) (pos : Int32)  : Met l yX4_position wsX4_position ({ frames := 0, cells := 0, slots := 0, locals := 0 } : Jvm.Room) (va_Pc [.ref cs] (wPre D (TY cI cC cS) [(cs, .inr (3, [.ref ck, .ref cn, .int len, va_re ad vb, .int pos])), (ck, .inl (cC, 80, .inl Cf)), (cn, .inl (cI, 5, .inl Nf))] sz wN)) (qI D (TY cI cC cS) (fun (r : Int32) (u : Int32) => fX4_position pos = u ∧ r = u) (fun u => [(cs, .inr (3, [.ref ck, .ref cn, .int len, va_re ad vb, .int pos])), (ck, .inl (cC, 80, .inl Cf)), (cn, .inl (cI, 5, .inl Nf))]) (va_A [(cs, .inr (3, [.ref ck, .ref cn, .int len, va_re ad vb, .int pos])), (ck, .inl (cC, 80, .inl Cf)), (cn, .inl (cI, 5, .inl Nf))] sz)) 0 0 (va_A [(cs, .inr (3, [.ref ck, .ref cn, .int len, va_re ad vb, .int pos])), (ck, .inl (cC, 80, .inl Cf)), (cn, .inl (cI, 5, .inl Nf))] sz) := by
  refine mkM (y := yX4_position) (wsl := wsX4_position) (fun Fr => qI D (TY cI cC cS) (fun (r : Int32) (u : Int32) => fX4_position pos = u ∧ r = u) (fun u => [(cs, .inr (3, [.ref ck, .ref cn, .int len, va_re ad vb, .int pos])), (ck, .inl (cC, 80, .inl Cf)), (cn, .inl (cI, 5, .inl Nf))]) Fr) (cc := cX4_position) (maxL := 1) (ret := (some .int)) (own := RX4) (lv := [(0, .ref cs)]) (by decide) rfl rfl (Nat.le_of_ble_eq_true rfl) rfl ?_
  intro p e s m below meth c Fr ls hx hb hr hts hown hml hlk hin hP hK hD hS hA hAe hsz hX hl
  have w_1 := hts (.fieldLink RX4 31 "FieldQuotas$Script" "position" "I") (List.mem_of_getElem? (i := 1) rfl)
  have w_2 := sub_r (big := wsX4_position) (u_ws RX4 TX4 5) [2, 3, 4, 5, 6] rfl
  refine lv_aload_n hx hb dX4_position_0 rfl (lv_at hl 0 rfl) ?_
  refine va_get (D := D) (ci := 3) (C := RX4) (T := TX4) (N := 5) hx hb hts w_2 hown hK hP 0 rfl rfl 4 (by decide) w_1 (fun _ h9 => h9) rfl dX4_position_1 ?_
  exact endI hx hb hr hlk hP hK hD hS dX4_position_4 pos rfl ⟨rfl, rfl⟩

/-- the value of X4_number, path by path -/
def fX4_number (Nf : Nat → Int32) (which : Int32) : Int32 :=
  (if which < 0 then 0 else (if Int32.ofNat 5 ≤ which then 0 else Nf which.toNatClampNeg))

set_option maxHeartbeats 4000000 in
set_option maxRecDepth 100000 in
/-- X4_number -/
theorem mX4_number (l : Launch) (D : va_G) (cI cC cS : ClassId) (sz : Nat) (cs : Nat) (ck : Nat) (cn : Nat) (ad : Nat → Nat) (Cf : Nat → Int32) (Nf : Nat → Int32) (len : Int32) (vb : Option Nat) (pos : Int32) (which : Int32)  : Met l yX4_number wsX4_number ({ frames := 0, cells := 0, slots := 0, locals := 0 } : Jvm.Room) (va_Pc [.ref cs, .int which] (wPre D (TY cI cC cS) [(cs, .inr (3, [.ref ck, .ref cn, .int len, va_re ad vb, .int pos])), (ck, .inl (cC, 80, .inl Cf)), (cn, .inl (cI, 5, .inl Nf))] sz wN)) (qI D (TY cI cC cS) (fun (r : Int32) (u : Int32) => fX4_number Nf which = u ∧ r = u) (fun u => [(cs, .inr (3, [.ref ck, .ref cn, .int len, va_re ad vb, .int pos])), (ck, .inl (cC, 80, .inl Cf)), (cn, .inl (cI, 5, .inl Nf))]) (va_A [(cs, .inr (3, [.ref ck, .ref cn, .int len, va_re ad vb, .int pos])), (ck, .inl (cC, 80, .inl Cf)), (cn, .inl (cI, 5, .inl Nf))] sz)) 0 0 (va_A [(cs, .inr (3, [.ref ck, .ref cn, .int len, va_re ad vb, .int pos])), (ck, .inl (cC, 80, .inl Cf)), (cn, .inl (cI, 5, .inl Nf))] sz) := by
  refine mkM (y := yX4_number) (wsl := wsX4_number) (fun Fr => qI D (TY cI cC cS) (fun (r : Int32) (u : Int32) => fX4_number Nf which = u ∧ r = u) (fun u => [(cs, .inr (3, [.ref ck, .ref cn, .int len, va_re ad vb, .int pos])), (ck, .inl (cC, 80, .inl Cf)), (cn, .inl (cI, 5, .inl Nf))]) Fr) (cc := cX4_number) (maxL := 2) (ret := (some .int)) (own := RX4) (lv := [(0, .ref cs), (1, .int which)]) (by decide) rfl rfl (Nat.le_of_ble_eq_true rfl) rfl ?_
  intro p e s m below meth c Fr ls hx hb hr hts hown hml hlk hin hP hK hD hS hA hAe hsz hX hl
  have w_1 := hts (.fieldLink RX4 15 "FieldQuotas$Script" "numbers" "[I") (List.mem_of_getElem? (i := 1) rfl)
  have w_2 := sub_r (big := wsX4_number) (u_ws RX4 TX4 5) [2, 3, 4, 5, 6] rfl
  refine lv_iload_n hx hb dX4_number_0 rfl (lv_at hl 1 rfl) ?_
  refine lv_if_lt (tgt := 22) hx hb dX4_number_1 (by decide) (fun c1 => ?_) (fun c1 => ?_)
  · refine lv_iconst (v := 0) hx hb dX4_number_22 (by decide) ?_
    exact endI hx hb hr hlk hP hK hD hS dX4_number_23 0 rfl ⟨(if_pos c1).trans rfl, rfl⟩
  · refine lv_iload_n hx hb dX4_number_4 rfl (lv_at hl 1 rfl) ?_
    refine lv_aload_n hx hb dX4_number_5 rfl (lv_at hl 0 rfl) ?_
    refine va_get (D := D) (ci := 3) (C := RX4) (T := TX4) (N := 5) hx hb hts w_2 hown hK hP 0 rfl rfl 1 (by decide) w_1 (fun _ h9 => h9) rfl dX4_number_6 ?_
    refine va_alen hx hb hK hP 2 0 rfl rfl rfl dX4_number_9 ?_
    refine lv_icmp_ge (tgt := 22) hx hb dX4_number_10 (by decide) (fun c10 => ?_) (fun c10 => ?_)
    · refine lv_iconst (v := 0) hx hb dX4_number_22 (by decide) ?_
      exact endI hx hb hr hlk hP hK hD hS dX4_number_23 0 rfl ⟨(if_neg c1).trans ((if_pos c10).trans rfl), rfl⟩
    · refine lv_aload_n hx hb dX4_number_13 rfl (lv_at hl 0 rfl) ?_
      refine va_get (D := D) (ci := 3) (C := RX4) (T := TX4) (N := 5) hx hb hts w_2 hown hK hP 0 rfl rfl 1 (by decide) w_1 (fun _ h9 => h9) rfl dX4_number_14 ?_
      refine lv_iload_n hx hb dX4_number_17 rfl (lv_at hl 1 rfl) ?_
      refine va_iald hx hb hK hP 2 0 rfl rfl (vp_in_of2 c1 c10 (by decide)) dX4_number_18 ?_
      refine lv_goto (tgt := 23) hx hb dX4_number_19 (by decide) ?_
      exact endI hx hb hr hlk hP hK hD hS dX4_number_23 (Nf which.toNatClampNeg) rfl ⟨(if_neg c1).trans ((if_neg c10).trans rfl), rfl⟩

/-- the value of X4_append, path by path -/
def fX4_append (Cf : Nat → Int32) (len : Int32) (character : Int32) : Int32 × (Nat → Int32) × Int32 :=
  bd1 (fX8_isWithin character 32 126) (fun (r_2 : Bool) => (if r_2 = true then (if len < 0 then ((-3), Cf, len) else (if len < Int32.ofNat 80 then (len + 1, upd Cf len.toNatClampNeg (vp_nar .char ((character.toUInt32 % 65536).toInt32)), len + 1) else ((-3), Cf, len))) else ((-1), Cf, len)))

set_option maxHeartbeats 4000000 in
set_option maxRecDepth 100000 in
/-- X4_append -/
theorem mX4_append (l : Launch) (D : va_G) (cI cC cS : ClassId) (sz : Nat) (cs : Nat) (ck : Nat) (cn : Nat) (ad : Nat → Nat) (Cf : Nat → Int32) (Nf : Nat → Int32) (len : Int32) (vb : Option Nat) (pos : Int32) (character : Int32)  : Met l yX4_append wsX4_append ({ frames := 1, cells := 0, slots := 0, locals := 22 } : Jvm.Room) (va_Pc [.ref cs, .int character] (wPre D (TY cI cC cS) [(cs, .inr (3, [.ref ck, .ref cn, .int len, va_re ad vb, .int pos])), (ck, .inl (cC, 80, .inl Cf)), (cn, .inl (cI, 5, .inl Nf))] sz wN)) (qI D (TY cI cC cS) (fun (r : Int32) (u : Int32 × (Nat → Int32) × Int32) => fX4_append Cf len character = u ∧ r = u.1) (fun u => [(cs, .inr (3, [.ref ck, .ref cn, .int u.2.2, va_re ad vb, .int pos])), (ck, .inl (cC, 80, .inl u.2.1)), (cn, .inl (cI, 5, .inl Nf))]) (va_A [(cs, .inr (3, [.ref ck, .ref cn, .int len, va_re ad vb, .int pos])), (ck, .inl (cC, 80, .inl Cf)), (cn, .inl (cI, 5, .inl Nf))] sz)) 0 0 (va_A [(cs, .inr (3, [.ref ck, .ref cn, .int len, va_re ad vb, .int pos])), (ck, .inl (cC, 80, .inl Cf)), (cn, .inl (cI, 5, .inl Nf))] sz) := by
  refine mkM (y := yX4_append) (wsl := wsX4_append) (fun Fr => qI D (TY cI cC cS) (fun (r : Int32) (u : Int32 × (Nat → Int32) × Int32) => fX4_append Cf len character = u ∧ r = u.1) (fun u => [(cs, .inr (3, [.ref ck, .ref cn, .int u.2.2, va_re ad vb, .int pos])), (ck, .inl (cC, 80, .inl u.2.1)), (cn, .inl (cI, 5, .inl Nf))]) Fr) (cc := cX4_append) (maxL := 2) (ret := (some .int)) (own := RX4) (lv := [(0, .ref cs), (1, .int character)]) (by decide) rfl rfl (Nat.le_of_ble_eq_true rfl) rfl ?_
  intro p e s m below meth c Fr ls hx hb hr hts hown hml hlk hin hP hK hD hS hA hAe hsz hX hl
  have w_1 := hts (.fieldLink RX4 19 "FieldQuotas$Script" "length" "I") (List.mem_of_getElem? (i := 1) rfl)
  have w_2 := sub_r (big := wsX4_append) (u_ws RX4 TX4 5) [6, 7, 8, 9, 10] rfl
  have w_3 := hts (.fieldLink RX4 9 "FieldQuotas$Script" "characters" "[C") (List.mem_of_getElem? (i := 2) rfl)
  refine lv_iload_n hx hb dX4_append_0 rfl (lv_at hl 1 rfl) ?_
  refine lv_bipush (v := 32) hx hb dX4_append_1 (by decide) ?_
  refine lv_bipush (v := 126) hx hb dX4_append_3 (by decide) ?_
  refine callNi (As := [.int character, .int 32, .int 126]) (rest := []) (mX8_isWithin l D cI cC cS _ character 32 126) ⟨hx, hb, hml, hown, hts⟩ (⟨va_cnB 3 hts gX4_append_X8_isWithin_n23 rfl rfl rfl hX.1 (hts (.initialized RX8) (List.mem_of_getElem? (i := 4) rfl)) (by decide +kernel) ⟨Nat.le_of_ble_eq_true rfl, Nat.le_of_ble_eq_true rfl⟩, hts (.static yX8_isWithin) (List.mem_of_getElem? (i := 3) rfl), trivial⟩) hP hK hD hS hA hl rfl rfl (Nat.le_of_ble_eq_true rfl) dX4_append_5 ⟨Nat.zero_le _, Nat.zero_le _⟩ (fun u_ H locs hk2 hP hS => ?_)
  obtain ⟨r_2, e_r_2⟩ : ∃ z, z = u_ := ⟨_, rfl⟩
  subst e_r_2
  refine W.eq (g2 := F0 m 8 ls [.int (bi r_2)]) rfl ?_
  refine lv_if_ne (tgt := 13) hx hb dX4_append_8 (by decide) (fun c8 => ?_) (fun c8 => ?_)
  · refine lv_aload_n hx hb dX4_append_13 rfl (lv_at hl 0 rfl) ?_
    refine va_get (D := D) (ci := 3) (C := RX4) (T := TX4) (N := 5) hx hb hts w_2 hown hK hP 0 rfl rfl 2 (by decide) w_1 (fun _ h9 => h9) rfl dX4_append_14 ?_
    refine lv_if_lt (tgt := 32) hx hb dX4_append_17 (by decide) (fun c17 => ?_) (fun c17 => ?_)
    · refine lv_bipush (v := (-3)) hx hb dX4_append_32 (by decide) ?_
      exact endI hx hb hr hlk hP hK hD hS dX4_append_34 ((-3), Cf, len) rfl ⟨(bd1_e hk2).trans ((if_pos (bi_o c8)).trans ((if_pos c17).trans rfl)), rfl⟩
    · refine lv_aload_n hx hb dX4_append_20 rfl (lv_at hl 0 rfl) ?_
      refine va_get (D := D) (ci := 3) (C := RX4) (T := TX4) (N := 5) hx hb hts w_2 hown hK hP 0 rfl rfl 2 (by decide) w_1 (fun _ h9 => h9) rfl dX4_append_21 ?_
      refine lv_aload_n hx hb dX4_append_24 rfl (lv_at hl 0 rfl) ?_
      refine va_get (D := D) (ci := 3) (C := RX4) (T := TX4) (N := 5) hx hb hts w_2 hown hK hP 0 rfl rfl 0 (by decide) w_3 (fun _ h9 => h9) rfl dX4_append_25 ?_
      refine va_alen hx hb hK hP 1 1 rfl rfl rfl dX4_append_28 ?_
      refine lv_icmp_lt (tgt := 35) hx hb dX4_append_29 (by decide) (fun c29 => ?_) (fun c29 => ?_)
      · refine lv_aload_n hx hb dX4_append_35 rfl (lv_at hl 0 rfl) ?_
        refine va_get (D := D) (ci := 3) (C := RX4) (T := TX4) (N := 5) hx hb hts w_2 hown hK hP 0 rfl rfl 0 (by decide) w_3 (fun _ h9 => h9) rfl dX4_append_36 ?_
        refine lv_aload_n hx hb dX4_append_39 rfl (lv_at hl 0 rfl) ?_
        refine va_get (D := D) (ci := 3) (C := RX4) (T := TX4) (N := 5) hx hb hts w_2 hown hK hP 0 rfl rfl 2 (by decide) w_1 (fun _ h9 => h9) rfl dX4_append_40 ?_
        refine lv_iload_n hx hb dX4_append_43 rfl (lv_at hl 1 rfl) ?_
        refine lv_i2c (v := (character.toUInt32 % 65536).toInt32) hx hb dX4_append_44 rfl ?_
        refine va_cast hx hb hK hP hD hS 1 1 rfl rfl (vp_in_of2 c17 (fun h => absurd c29 (Int32.not_lt.mpr h)) (by decide)) dX4_append_45 (fun H locs hP hD hS => ?_)
        have hP : va_P D vwCl [(cs, .inr (3, [.ref ck, .ref cn, .int len, va_re ad vb, .int pos])), (ck, .inl (cC, 80, .inl (upd Cf len.toNatClampNeg (vp_nar .char ((character.toUInt32 % 65536).toInt32))))), (cn, .inl (cI, 5, .inl Nf))] H := hP
        have hD : va_D Fr [(cs, .inr (3, [.ref ck, .ref cn, .int len, va_re ad vb, .int pos])), (ck, .inl (cC, 80, .inl (upd Cf len.toNatClampNeg (vp_nar .char ((character.toUInt32 % 65536).toInt32))))), (cn, .inl (cI, 5, .inl Nf))] := hD
        refine lv_aload_n hx hb dX4_append_46 rfl (lv_at hl 0 rfl) ?_
        refine lv_dup hx hb dX4_append_47 rfl ?_
        refine va_get (D := D) (ci := 3) (C := RX4) (T := TX4) (N := 5) hx hb hts w_2 hown hK hP 0 rfl rfl 2 (by decide) w_1 (fun _ h9 => h9) rfl dX4_append_48 ?_
        refine lv_iconst (v := 1) hx hb dX4_append_51 (by decide) ?_
        refine lv_iadd hx hb dX4_append_52 ?_
        refine va_put (D := D) (ci := 3) (v := .int (len + 1)) (ty := .int) (C := RX4) (T := TX4) (N := 5) hx hb hts w_2 tyX4 tyX4_ok nmX4 hown hK hP hD hS 0 rfl rfl 2 (by decide) w_1 (fun _ h9 => h9) rfl (by decide +kernel) rfl rfl (Nat.le_of_ble_eq_true rfl) dX4_append_53 (fun H locs hP hD hS => ?_)
        have hP : va_P D vwCl [(cs, .inr (3, [.ref ck, .ref cn, .int (len + 1), va_re ad vb, .int pos])), (ck, .inl (cC, 80, .inl (upd Cf len.toNatClampNeg (vp_nar .char ((character.toUInt32 % 65536).toInt32))))), (cn, .inl (cI, 5, .inl Nf))] H := hP
        have hD : va_D Fr [(cs, .inr (3, [.ref ck, .ref cn, .int (len + 1), va_re ad vb, .int pos])), (ck, .inl (cC, 80, .inl (upd Cf len.toNatClampNeg (vp_nar .char ((character.toUInt32 % 65536).toInt32))))), (cn, .inl (cI, 5, .inl Nf))] := hD
        refine lv_aload_n hx hb dX4_append_56 rfl (lv_at hl 0 rfl) ?_
        refine va_get (D := D) (ci := 3) (C := RX4) (T := TX4) (N := 5) hx hb hts w_2 hown hK hP 0 rfl rfl 2 (by decide) w_1 (fun _ h9 => h9) rfl dX4_append_57 ?_
        exact endI hx hb hr hlk hP hK hD hS dX4_append_60 (len + 1, upd Cf len.toNatClampNeg (vp_nar .char ((character.toUInt32 % 65536).toInt32)), len + 1) rfl ⟨(bd1_e hk2).trans ((if_pos (bi_o c8)).trans ((if_neg c17).trans ((if_pos c29).trans rfl))), rfl⟩
      · refine lv_bipush (v := (-3)) hx hb dX4_append_32 (by decide) ?_
        exact endI hx hb hr hlk hP hK hD hS dX4_append_34 ((-3), Cf, len) rfl ⟨(bd1_e hk2).trans ((if_pos (bi_o c8)).trans ((if_neg c17).trans ((if_neg c29).trans rfl))), rfl⟩
  · refine lv_iconst (v := (-1)) hx hb dX4_append_11 (by decide) ?_
    exact endI hx hb hr hlk hP hK hD hS dX4_append_12 ((-1), Cf, len) rfl ⟨(bd1_e hk2).trans ((if_neg (bi_z c8)).trans rfl), rfl⟩

/-- the value of X4_signAt, path by path -/
def fX4_signAt (Cf : Nat → Int32) (len : Int32) (place : Int32) : Int32 :=
  (if place < 0 then 0 else (if len ≤ place then 0 else (if Int32.ofNat 80 ≤ place then 0 else Cf place.toNatClampNeg)))

set_option maxHeartbeats 4000000 in
set_option maxRecDepth 100000 in
/-- X4_signAt -/
theorem mX4_signAt (l : Launch) (D : va_G) (cI cC cS : ClassId) (sz : Nat) (cs : Nat) (ck : Nat) (cn : Nat) (ad : Nat → Nat) (Cf : Nat → Int32) (Nf : Nat → Int32) (len : Int32) (vb : Option Nat) (pos : Int32) (place : Int32) (hC : ∀ k, narrow .char (.int (Cf k)) = .int (Cf k)) : Met l yX4_signAt wsX4_signAt ({ frames := 0, cells := 0, slots := 0, locals := 0 } : Jvm.Room) (va_Pc [.ref cs, .int place] (wPre D (TY cI cC cS) [(cs, .inr (3, [.ref ck, .ref cn, .int len, va_re ad vb, .int pos])), (ck, .inl (cC, 80, .inl Cf)), (cn, .inl (cI, 5, .inl Nf))] sz wN)) (qI D (TY cI cC cS) (fun (r : Int32) (u : Int32) => fX4_signAt Cf len place = u ∧ r = u) (fun u => [(cs, .inr (3, [.ref ck, .ref cn, .int len, va_re ad vb, .int pos])), (ck, .inl (cC, 80, .inl Cf)), (cn, .inl (cI, 5, .inl Nf))]) (va_A [(cs, .inr (3, [.ref ck, .ref cn, .int len, va_re ad vb, .int pos])), (ck, .inl (cC, 80, .inl Cf)), (cn, .inl (cI, 5, .inl Nf))] sz)) 0 0 (va_A [(cs, .inr (3, [.ref ck, .ref cn, .int len, va_re ad vb, .int pos])), (ck, .inl (cC, 80, .inl Cf)), (cn, .inl (cI, 5, .inl Nf))] sz) := by
  refine mkM (y := yX4_signAt) (wsl := wsX4_signAt) (fun Fr => qI D (TY cI cC cS) (fun (r : Int32) (u : Int32) => fX4_signAt Cf len place = u ∧ r = u) (fun u => [(cs, .inr (3, [.ref ck, .ref cn, .int len, va_re ad vb, .int pos])), (ck, .inl (cC, 80, .inl Cf)), (cn, .inl (cI, 5, .inl Nf))]) Fr) (cc := cX4_signAt) (maxL := 3) (ret := (some .char)) (own := RX4) (lv := [(0, .ref cs), (1, .int place)]) (by decide) rfl rfl (Nat.le_of_ble_eq_true rfl) rfl ?_
  intro p e s m below meth c Fr ls hx hb hr hts hown hml hlk hin hP hK hD hS hA hAe hsz hX hl
  have w_1 := hts (.fieldLink RX4 19 "FieldQuotas$Script" "length" "I") (List.mem_of_getElem? (i := 1) rfl)
  have w_2 := sub_r (big := wsX4_signAt) (u_ws RX4 TX4 5) [3, 4, 5, 6, 7] rfl
  have w_3 := hts (.fieldLink RX4 9 "FieldQuotas$Script" "characters" "[C") (List.mem_of_getElem? (i := 2) rfl)
  refine lv_iload_n hx hb dX4_signAt_0 rfl (lv_at hl 1 rfl) ?_
  refine lv_if_lt (tgt := 25) hx hb dX4_signAt_1 (by decide) (fun c1 => ?_) (fun c1 => ?_)
  · refine lv_iconst (v := 0) hx hb dX4_signAt_25 (by decide) ?_
    refine lv_istore_n (lv' := [(2, .int 0), (0, .ref cs), (1, .int place)]) hx hb dX4_signAt_26 rfl hl (by decide) rfl (fun ls hl => ?_)
    refine lv_iload_n hx hb dX4_signAt_27 rfl (lv_at hl 0 rfl) ?_
    refine lv_if_eq (tgt := 40) hx hb dX4_signAt_28 (by decide) (fun _ => ?_) (fun h => absurd (by decide) h)
    refine lv_iconst (v := 0) hx hb dX4_signAt_40 (by decide) ?_
    exact endZ hx hb hr hlk hP hK hD hS dX4_signAt_41 rfl 0 rfl ⟨(if_pos c1).trans rfl, rfl⟩
  · refine lv_iload_n hx hb dX4_signAt_4 rfl (lv_at hl 1 rfl) ?_
    refine lv_aload_n hx hb dX4_signAt_5 rfl (lv_at hl 0 rfl) ?_
    refine va_get (D := D) (ci := 3) (C := RX4) (T := TX4) (N := 5) hx hb hts w_2 hown hK hP 0 rfl rfl 2 (by decide) w_1 (fun _ h9 => h9) rfl dX4_signAt_6 ?_
    refine lv_icmp_ge (tgt := 25) hx hb dX4_signAt_9 (by decide) (fun c9 => ?_) (fun c9 => ?_)
    · refine lv_iconst (v := 0) hx hb dX4_signAt_25 (by decide) ?_
      refine lv_istore_n (lv' := [(2, .int 0), (0, .ref cs), (1, .int place)]) hx hb dX4_signAt_26 rfl hl (by decide) rfl (fun ls hl => ?_)
      refine lv_iload_n hx hb dX4_signAt_27 rfl (lv_at hl 0 rfl) ?_
      refine lv_if_eq (tgt := 40) hx hb dX4_signAt_28 (by decide) (fun _ => ?_) (fun h => absurd (by decide) h)
      refine lv_iconst (v := 0) hx hb dX4_signAt_40 (by decide) ?_
      exact endZ hx hb hr hlk hP hK hD hS dX4_signAt_41 rfl 0 rfl ⟨(if_neg c1).trans ((if_pos c9).trans rfl), rfl⟩
    · refine lv_iload_n hx hb dX4_signAt_12 rfl (lv_at hl 1 rfl) ?_
      refine lv_aload_n hx hb dX4_signAt_13 rfl (lv_at hl 0 rfl) ?_
      refine va_get (D := D) (ci := 3) (C := RX4) (T := TX4) (N := 5) hx hb hts w_2 hown hK hP 0 rfl rfl 0 (by decide) w_3 (fun _ h9 => h9) rfl dX4_signAt_14 ?_
      refine va_alen hx hb hK hP 1 1 rfl rfl rfl dX4_signAt_17 ?_
      refine lv_icmp_ge (tgt := 25) hx hb dX4_signAt_18 (by decide) (fun c18 => ?_) (fun c18 => ?_)
      · refine lv_iconst (v := 0) hx hb dX4_signAt_25 (by decide) ?_
        refine lv_istore_n (lv' := [(2, .int 0), (0, .ref cs), (1, .int place)]) hx hb dX4_signAt_26 rfl hl (by decide) rfl (fun ls hl => ?_)
        refine lv_iload_n hx hb dX4_signAt_27 rfl (lv_at hl 0 rfl) ?_
        refine lv_if_eq (tgt := 40) hx hb dX4_signAt_28 (by decide) (fun _ => ?_) (fun h => absurd (by decide) h)
        refine lv_iconst (v := 0) hx hb dX4_signAt_40 (by decide) ?_
        exact endZ hx hb hr hlk hP hK hD hS dX4_signAt_41 rfl 0 rfl ⟨(if_neg c1).trans ((if_neg c9).trans ((if_pos c18).trans rfl)), rfl⟩
      · refine lv_iconst (v := 1) hx hb dX4_signAt_21 (by decide) ?_
        refine lv_goto (tgt := 26) hx hb dX4_signAt_22 (by decide) ?_
        refine lv_istore_n (lv' := [(2, .int 1), (0, .ref cs), (1, .int place)]) hx hb dX4_signAt_26 rfl hl (by decide) rfl (fun ls hl => ?_)
        refine lv_iload_n hx hb dX4_signAt_27 rfl (lv_at hl 0 rfl) ?_
        refine lv_if_eq (tgt := 40) hx hb dX4_signAt_28 (by decide) (fun h => absurd h (by decide)) (fun _ => ?_)
        refine lv_aload_n hx hb dX4_signAt_31 rfl (lv_at hl 1 rfl) ?_
        refine va_get (D := D) (ci := 3) (C := RX4) (T := TX4) (N := 5) hx hb hts w_2 hown hK hP 0 rfl rfl 0 (by decide) w_3 (fun _ h9 => h9) rfl dX4_signAt_32 ?_
        refine lv_iload_n hx hb dX4_signAt_35 rfl (lv_at hl 2 rfl) ?_
        refine va_cald hx hb hK hP 1 1 rfl rfl (vp_in_of2 c1 c18 (by decide)) dX4_signAt_36 ?_
        refine lv_goto (tgt := 41) hx hb dX4_signAt_37 (by decide) ?_
        exact endZ hx hb hr hlk hP hK hD hS dX4_signAt_41 (hC _) (Cf place.toNatClampNeg) rfl ⟨(if_neg c1).trans ((if_neg c9).trans ((if_neg c18).trans rfl)), rfl⟩

/-- the value of X4_readSign, path by path -/
def fX4_readSign (Cf : Nat → Int32) (len : Int32) (pos : Int32) (sign : Int32) : Bool × Int32 :=
  bd1 (fX4_signAt Cf len pos) (fun (r_2 : Int32) => (if r_2 = sign then (true, pos + 1) else (false, pos)))

set_option maxHeartbeats 4000000 in
set_option maxRecDepth 100000 in
/-- X4_readSign -/
theorem mX4_readSign (l : Launch) (D : va_G) (cI cC cS : ClassId) (sz : Nat) (cs : Nat) (ck : Nat) (cn : Nat) (ad : Nat → Nat) (Cf : Nat → Int32) (Nf : Nat → Int32) (len : Int32) (vb : Option Nat) (pos : Int32) (sign : Int32) (hC : ∀ k, narrow .char (.int (Cf k)) = .int (Cf k)) : Met l yX4_readSign wsX4_readSign ({ frames := 1, cells := 0, slots := 0, locals := 22 } : Jvm.Room) (va_Pc [.ref cs, .int sign] (wPre D (TY cI cC cS) [(cs, .inr (3, [.ref ck, .ref cn, .int len, va_re ad vb, .int pos])), (ck, .inl (cC, 80, .inl Cf)), (cn, .inl (cI, 5, .inl Nf))] sz wN)) (qI D (TY cI cC cS) (fun (r : Int32) (u : Bool × Int32) => fX4_readSign Cf len pos sign = u ∧ r = bi u.1) (fun u => [(cs, .inr (3, [.ref ck, .ref cn, .int len, va_re ad vb, .int u.2])), (ck, .inl (cC, 80, .inl Cf)), (cn, .inl (cI, 5, .inl Nf))]) (va_A [(cs, .inr (3, [.ref ck, .ref cn, .int len, va_re ad vb, .int pos])), (ck, .inl (cC, 80, .inl Cf)), (cn, .inl (cI, 5, .inl Nf))] sz)) 0 0 (va_A [(cs, .inr (3, [.ref ck, .ref cn, .int len, va_re ad vb, .int pos])), (ck, .inl (cC, 80, .inl Cf)), (cn, .inl (cI, 5, .inl Nf))] sz) := by
  refine mkM (y := yX4_readSign) (wsl := wsX4_readSign) (fun Fr => qI D (TY cI cC cS) (fun (r : Int32) (u : Bool × Int32) => fX4_readSign Cf len pos sign = u ∧ r = bi u.1) (fun u => [(cs, .inr (3, [.ref ck, .ref cn, .int len, va_re ad vb, .int u.2])), (ck, .inl (cC, 80, .inl Cf)), (cn, .inl (cI, 5, .inl Nf))]) Fr) (cc := cX4_readSign) (maxL := 2) (ret := (some .boolean)) (own := RX4) (lv := [(0, .ref cs), (1, .int sign)]) (by decide) rfl rfl (Nat.le_of_ble_eq_true rfl) rfl ?_
  intro p e s m below meth c Fr ls hx hb hr hts hown hml hlk hin hP hK hD hS hA hAe hsz hX hl
  have w_1 := hts (.fieldLink RX4 31 "FieldQuotas$Script" "position" "I") (List.mem_of_getElem? (i := 1) rfl)
  have w_2 := sub_r (big := wsX4_readSign) (u_ws RX4 TX4 5) [9, 10, 11, 12, 13] rfl
  refine lv_aload_n hx hb dX4_readSign_0 rfl (lv_at hl 0 rfl) ?_
  refine lv_aload_n hx hb dX4_readSign_1 rfl (lv_at hl 0 rfl) ?_
  refine va_get (D := D) (ci := 3) (C := RX4) (T := TX4) (N := 5) hx hb hts w_2 hown hK hP 0 rfl rfl 4 (by decide) w_1 (fun _ h9 => h9) rfl dX4_readSign_2 ?_
  refine callVi (As := [.int pos]) (rest := []) (mX4_signAt l D cI cC cS _ cs ck cn ad Cf Nf len vb pos pos hC) ⟨hx, hb, hml, hown, hts⟩ (cwV 1 hts gX4_readSign_X4_signAt rfl rfl rfl (by decide +kernel) ⟨Nat.le_of_ble_eq_true rfl, Nat.le_of_ble_eq_true rfl⟩) wN_blind (fun _ _ hW => wN_warm hW hX) hP hK hD hS hA hl [0, 1, 2] rfl rfl 0 3 rfl rfl rfl rfl rfl (Nat.le_of_ble_eq_true rfl) dX4_readSign_5 ⟨Nat.zero_le _, Nat.zero_le _⟩ (fun _ => rfl) (fun u_ H locs hk2 hP hD hS => ?_)
  obtain ⟨r_2, e_r_2⟩ : ∃ z, z = u_ := ⟨_, rfl⟩
  subst e_r_2
  have hP : va_P D vwCl [(cs, .inr (3, [.ref ck, .ref cn, .int len, va_re ad vb, .int pos])), (ck, .inl (cC, 80, .inl Cf)), (cn, .inl (cI, 5, .inl Nf))] H := hP
  have hD : va_D Fr [(cs, .inr (3, [.ref ck, .ref cn, .int len, va_re ad vb, .int pos])), (ck, .inl (cC, 80, .inl Cf)), (cn, .inl (cI, 5, .inl Nf))] := hD
  refine W.eq (g2 := F0 m 8 ls [.int r_2]) rfl ?_
  refine lv_iload_n hx hb dX4_readSign_8 rfl (lv_at hl 1 rfl) ?_
  refine lv_icmp_eq (tgt := 14) hx hb dX4_readSign_9 (by decide) (fun c9 => ?_) (fun c9 => ?_)
  · refine lv_aload_n hx hb dX4_readSign_14 rfl (lv_at hl 0 rfl) ?_
    refine lv_dup hx hb dX4_readSign_15 rfl ?_
    refine va_get (D := D) (ci := 3) (C := RX4) (T := TX4) (N := 5) hx hb hts w_2 hown hK hP 0 rfl rfl 4 (by decide) w_1 (fun _ h9 => h9) rfl dX4_readSign_16 ?_
    refine lv_iconst (v := 1) hx hb dX4_readSign_19 (by decide) ?_
    refine lv_iadd hx hb dX4_readSign_20 ?_
    refine va_put (D := D) (ci := 3) (v := .int (pos + 1)) (ty := .int) (C := RX4) (T := TX4) (N := 5) hx hb hts w_2 tyX4 tyX4_ok nmX4 hown hK hP hD hS 0 rfl rfl 4 (by decide) w_1 (fun _ h9 => h9) rfl (by decide +kernel) rfl rfl (Nat.le_of_ble_eq_true rfl) dX4_readSign_21 (fun H locs hP hD hS => ?_)
    have hP : va_P D vwCl [(cs, .inr (3, [.ref ck, .ref cn, .int len, va_re ad vb, .int (pos + 1)])), (ck, .inl (cC, 80, .inl Cf)), (cn, .inl (cI, 5, .inl Nf))] H := hP
    have hD : va_D Fr [(cs, .inr (3, [.ref ck, .ref cn, .int len, va_re ad vb, .int (pos + 1)])), (ck, .inl (cC, 80, .inl Cf)), (cn, .inl (cI, 5, .inl Nf))] := hD
    refine lv_iconst (v := 1) hx hb dX4_readSign_24 (by decide) ?_
    exact endZ hx hb hr hlk hP hK hD hS dX4_readSign_25 rfl (true, pos + 1) rfl ⟨(bd1_e hk2).trans ((if_pos c9).trans rfl), rfl⟩
  · refine lv_iconst (v := 0) hx hb dX4_readSign_12 (by decide) ?_
    exact endZ hx hb hr hlk hP hK hD hS dX4_readSign_13 rfl (false, pos) rfl ⟨(bd1_e hk2).trans ((if_neg c9).trans rfl), rfl⟩

/-- the loop of X4_readNumber at 4 -/
def fX4_readNumber_4 (Cf : Nat → Int32) (Nf : Nat → Int32) (len : Int32) (pos : Int32) (which : Int32) : Nat → Int32 → Int32 → Int32 → Bool × (Nat → Int32) × Int32
  | 0, _, _, _ => default
  | fu + 1, x2, x3, pp =>
    (if (3 : Int32) ≤ x3 then (if which < 0 then (if x3 ≤ 0 then (false, Nf, pp) else (true, Nf, pp)) else (if Int32.ofNat 5 ≤ which then (if x3 ≤ 0 then (false, Nf, pp) else (true, Nf, pp)) else (if x3 ≤ 0 then (false, upd Nf which.toNatClampNeg x2, pp) else (true, upd Nf which.toNatClampNeg x2, pp)))) else bd1 (fX4_signAt Cf len pp) (fun (r_2 : Int32) => bd1 (fX8_isWithin r_2 48 57) (fun (r_4 : Bool) => (if r_4 = true then bd1 (fX4_signAt Cf len pp) (fun (r_6 : Int32) => bd1 ((x2 * 10) + (r_6 - 48)) (fun (y_7 : Int32) => fX4_readNumber_4 Cf Nf len pos which fu y_7 (x3 + 1) (pp + 1))) else (if which < 0 then (if x3 ≤ 0 then (false, Nf, pp) else (true, Nf, pp)) else (if Int32.ofNat 5 ≤ which then (if x3 ≤ 0 then (false, Nf, pp) else (true, Nf, pp)) else (if x3 ≤ 0 then (false, upd Nf which.toNatClampNeg x2, pp) else (true, upd Nf which.toNatClampNeg x2, pp))))))))
theorem fX4_readNumber_4_s (Cf : Nat → Int32) (Nf : Nat → Int32) (len : Int32) (pos : Int32) (which : Int32) (fu : Nat) (x2 : Int32) (x3 : Int32) (pp : Int32) : fX4_readNumber_4 Cf Nf len pos which (fu + 1) x2 x3 pp =
    (if (3 : Int32) ≤ x3 then (if which < 0 then (if x3 ≤ 0 then (false, Nf, pp) else (true, Nf, pp)) else (if Int32.ofNat 5 ≤ which then (if x3 ≤ 0 then (false, Nf, pp) else (true, Nf, pp)) else (if x3 ≤ 0 then (false, upd Nf which.toNatClampNeg x2, pp) else (true, upd Nf which.toNatClampNeg x2, pp)))) else bd1 (fX4_signAt Cf len pp) (fun (r_2 : Int32) => bd1 (fX8_isWithin r_2 48 57) (fun (r_4 : Bool) => (if r_4 = true then bd1 (fX4_signAt Cf len pp) (fun (r_6 : Int32) => bd1 ((x2 * 10) + (r_6 - 48)) (fun (y_7 : Int32) => fX4_readNumber_4 Cf Nf len pos which fu y_7 (x3 + 1) (pp + 1))) else (if which < 0 then (if x3 ≤ 0 then (false, Nf, pp) else (true, Nf, pp)) else (if Int32.ofNat 5 ≤ which then (if x3 ≤ 0 then (false, Nf, pp) else (true, Nf, pp)) else (if x3 ≤ 0 then (false, upd Nf which.toNatClampNeg x2, pp) else (true, upd Nf which.toNatClampNeg x2, pp)))))))) := rfl

/-- the value of X4_readNumber, path by path -/
def fX4_readNumber (Cf : Nat → Int32) (Nf : Nat → Int32) (len : Int32) (pos : Int32) (which : Int32) : Bool × (Nat → Int32) × Int32 :=
  fX4_readNumber_4 Cf Nf len pos which (((3 : Int32).toInt - (0 : Int32).toInt).toNat + 1) 0 0 pos

set_option maxHeartbeats 4000000 in
set_option maxRecDepth 100000 in
/-- X4_readNumber -/
theorem mX4_readNumber (l : Launch) (D : va_G) (cI cC cS : ClassId) (sz : Nat) (cs : Nat) (ck : Nat) (cn : Nat) (ad : Nat → Nat) (Cf : Nat → Int32) (Nf : Nat → Int32) (len : Int32) (vb : Option Nat) (pos : Int32) (which : Int32) (hC : ∀ k, narrow .char (.int (Cf k)) = .int (Cf k)) : Met l yX4_readNumber wsX4_readNumber ({ frames := 1, cells := 0, slots := 0, locals := 22 } : Jvm.Room) (va_Pc [.ref cs, .int which] (wPre D (TY cI cC cS) [(cs, .inr (3, [.ref ck, .ref cn, .int len, va_re ad vb, .int pos])), (ck, .inl (cC, 80, .inl Cf)), (cn, .inl (cI, 5, .inl Nf))] sz wN)) (qI D (TY cI cC cS) (fun (r : Int32) (u : Bool × (Nat → Int32) × Int32) => fX4_readNumber Cf Nf len pos which = u ∧ r = bi u.1) (fun u => [(cs, .inr (3, [.ref ck, .ref cn, .int len, va_re ad vb, .int u.2.2])), (ck, .inl (cC, 80, .inl Cf)), (cn, .inl (cI, 5, .inl u.2.1))]) (va_A [(cs, .inr (3, [.ref ck, .ref cn, .int len, va_re ad vb, .int pos])), (ck, .inl (cC, 80, .inl Cf)), (cn, .inl (cI, 5, .inl Nf))] sz)) 0 0 (va_A [(cs, .inr (3, [.ref ck, .ref cn, .int len, va_re ad vb, .int pos])), (ck, .inl (cC, 80, .inl Cf)), (cn, .inl (cI, 5, .inl Nf))] sz) := by
  refine mkM (y := yX4_readNumber) (wsl := wsX4_readNumber) (fun Fr => qI D (TY cI cC cS) (fun (r : Int32) (u : Bool × (Nat → Int32) × Int32) => fX4_readNumber Cf Nf len pos which = u ∧ r = bi u.1) (fun u => [(cs, .inr (3, [.ref ck, .ref cn, .int len, va_re ad vb, .int u.2.2])), (ck, .inl (cC, 80, .inl Cf)), (cn, .inl (cI, 5, .inl u.2.1))]) Fr) (cc := cX4_readNumber) (maxL := 4) (ret := (some .boolean)) (own := RX4) (lv := [(0, .ref cs), (1, .int which)]) (by decide) rfl rfl (Nat.le_of_ble_eq_true rfl) rfl ?_
  intro p e s m below meth c Fr ls hx hb hr hts hown hml hlk hin hP hK hD hS hA hAe hsz hX hl
  have w_1 := hts (.fieldLink RX4 15 "FieldQuotas$Script" "numbers" "[I") (List.mem_of_getElem? (i := 2) rfl)
  have w_2 := sub_r (big := wsX4_readNumber) (u_ws RX4 TX4 5) [13, 14, 15, 16, 17] rfl
  have w_3 := hts (.fieldLink RX4 31 "FieldQuotas$Script" "position" "I") (List.mem_of_getElem? (i := 1) rfl)
  refine lv_iconst (v := 0) hx hb dX4_readNumber_0 (by decide) ?_
  refine lv_istore_n (lv' := [(2, .int 0), (0, .ref cs), (1, .int which)]) hx hb dX4_readNumber_1 rfl hl (by decide) rfl (fun ls hl => ?_)
  refine lv_iconst (v := 0) hx hb dX4_readNumber_2 (by decide) ?_
  refine lv_istore_n (lv' := [(3, .int 0), (2, .int 0), (0, .ref cs), (1, .int which)]) hx hb dX4_readNumber_3 rfl hl (by decide) rfl (fun ls hl => ?_)
  have K_4 : ∀ (fu : Nat) (x2 : Int32) (x3 : Int32) (pp : Int32) (H : Heap) (locs : List Loc) (ls : Array Slot), va_P D vwCl [(cs, .inr (3, [.ref ck, .ref cn, .int len, va_re ad vb, .int pp])), (ck, .inl (cC, 80, .inl Cf)), (cn, .inl (cI, 5, .inl Nf))] H → va_D Fr [(cs, .inr (3, [.ref ck, .ref cn, .int len, va_re ad vb, .int pp])), (ck, .inl (cC, 80, .inl Cf)), (cn, .inl (cI, 5, .inl Nf))] → va_S Fr s.heap H locs → lv_has ls 4 [(0, .ref cs), (1, .int which), (2, .int x2), (3, .int x3)] → ((3 : Int32).toInt - x3.toInt).toNat < fu → fX4_readNumber Cf Nf len pos which = fX4_readNumber_4 Cf Nf len pos which fu x2 x3 pp → W p l e (headSpec wsX4_readNumber ({ frames := 1, cells := 0, slots := 0, locals := 22 } : Jvm.Room)).room s m ([.ref cs, .int which] : List Value).toArray below meth c H locs 0 0 (MQ below (qI D (TY cI cC cS) (fun (r : Int32) (u : Bool × (Nat → Int32) × Int32) => fX4_readNumber Cf Nf len pos which = u ∧ r = bi u.1) (fun u => [(cs, .inr (3, [.ref ck, .ref cn, .int len, va_re ad vb, .int u.2.2])), (ck, .inl (cC, 80, .inl Cf)), (cn, .inl (cI, 5, .inl u.2.1))]) Fr) ([.ref cs, .int which] : List Value).toArray s 0 0 Fr) (F0 m 4 ls []) := by
    intro fu
    induction fu with
    | zero => intros; exact absurd (by assumption) (Nat.not_lt_zero _)
    | succ fu ih_4 =>
      intro x2 x3 pp H locs ls hP hD hS hl  hm_4 E_4
      refine lv_iload_n hx hb dX4_readNumber_4 rfl (lv_at hl 3 rfl) ?_
      refine lv_iconst (v := 3) hx hb dX4_readNumber_5 (by decide) ?_
      refine lv_icmp_ge (tgt := 60) hx hb dX4_readNumber_6 (by decide) (fun c6 => ?_) (fun c6 => ?_)
      · refine lv_iload_n hx hb dX4_readNumber_60 rfl (lv_at hl 1 rfl) ?_
        refine lv_if_lt (tgt := 80) hx hb dX4_readNumber_61 (by decide) (fun c61 => ?_) (fun c61 => ?_)
        · refine lv_iload_n hx hb dX4_readNumber_80 rfl (lv_at hl 3 rfl) ?_
          refine lv_if_le (tgt := 88) hx hb dX4_readNumber_81 (by decide) (fun c81 => ?_) (fun c81 => ?_)
          · refine lv_iconst (v := 0) hx hb dX4_readNumber_88 (by decide) ?_
            exact endZ hx hb hr hlk hP hK hD hS dX4_readNumber_89 rfl (false, Nf, pp) rfl ⟨(E_4).trans ((fX4_readNumber_4_s Cf Nf len pos which fu x2 x3 pp).trans ((if_pos c6).trans ((if_pos c61).trans ((if_pos c81).trans rfl)))), rfl⟩
          · refine lv_iconst (v := 1) hx hb dX4_readNumber_84 (by decide) ?_
            refine lv_goto (tgt := 89) hx hb dX4_readNumber_85 (by decide) ?_
            exact endZ hx hb hr hlk hP hK hD hS dX4_readNumber_89 rfl (true, Nf, pp) rfl ⟨(E_4).trans ((fX4_readNumber_4_s Cf Nf len pos which fu x2 x3 pp).trans ((if_pos c6).trans ((if_pos c61).trans ((if_neg c81).trans rfl)))), rfl⟩
        · refine lv_iload_n hx hb dX4_readNumber_64 rfl (lv_at hl 1 rfl) ?_
          refine lv_aload_n hx hb dX4_readNumber_65 rfl (lv_at hl 0 rfl) ?_
          refine va_get (D := D) (ci := 3) (C := RX4) (T := TX4) (N := 5) hx hb hts w_2 hown hK hP 0 rfl rfl 1 (by decide) w_1 (fun _ h9 => h9) rfl dX4_readNumber_66 ?_
          refine va_alen hx hb hK hP 2 0 rfl rfl rfl dX4_readNumber_69 ?_
          refine lv_icmp_ge (tgt := 80) hx hb dX4_readNumber_70 (by decide) (fun c70 => ?_) (fun c70 => ?_)
          · refine lv_iload_n hx hb dX4_readNumber_80 rfl (lv_at hl 3 rfl) ?_
            refine lv_if_le (tgt := 88) hx hb dX4_readNumber_81 (by decide) (fun c81 => ?_) (fun c81 => ?_)
            · refine lv_iconst (v := 0) hx hb dX4_readNumber_88 (by decide) ?_
              exact endZ hx hb hr hlk hP hK hD hS dX4_readNumber_89 rfl (false, Nf, pp) rfl ⟨(E_4).trans ((fX4_readNumber_4_s Cf Nf len pos which fu x2 x3 pp).trans ((if_pos c6).trans ((if_neg c61).trans ((if_pos c70).trans ((if_pos c81).trans rfl))))), rfl⟩
            · refine lv_iconst (v := 1) hx hb dX4_readNumber_84 (by decide) ?_
              refine lv_goto (tgt := 89) hx hb dX4_readNumber_85 (by decide) ?_
              exact endZ hx hb hr hlk hP hK hD hS dX4_readNumber_89 rfl (true, Nf, pp) rfl ⟨(E_4).trans ((fX4_readNumber_4_s Cf Nf len pos which fu x2 x3 pp).trans ((if_pos c6).trans ((if_neg c61).trans ((if_pos c70).trans ((if_neg c81).trans rfl))))), rfl⟩
          · refine lv_aload_n hx hb dX4_readNumber_73 rfl (lv_at hl 0 rfl) ?_
            refine va_get (D := D) (ci := 3) (C := RX4) (T := TX4) (N := 5) hx hb hts w_2 hown hK hP 0 rfl rfl 1 (by decide) w_1 (fun _ h9 => h9) rfl dX4_readNumber_74 ?_
            refine lv_iload_n hx hb dX4_readNumber_77 rfl (lv_at hl 1 rfl) ?_
            refine lv_iload_n hx hb dX4_readNumber_78 rfl (lv_at hl 2 rfl) ?_
            refine va_iast hx hb hK hP hD hS 2 0 rfl rfl (vp_in_of2 c61 c70 (by decide)) dX4_readNumber_79 (fun H locs hP hD hS => ?_)
            have hP : va_P D vwCl [(cs, .inr (3, [.ref ck, .ref cn, .int len, va_re ad vb, .int pp])), (ck, .inl (cC, 80, .inl Cf)), (cn, .inl (cI, 5, .inl (upd Nf which.toNatClampNeg x2)))] H := hP
            have hD : va_D Fr [(cs, .inr (3, [.ref ck, .ref cn, .int len, va_re ad vb, .int pp])), (ck, .inl (cC, 80, .inl Cf)), (cn, .inl (cI, 5, .inl (upd Nf which.toNatClampNeg x2)))] := hD
            refine lv_iload_n hx hb dX4_readNumber_80 rfl (lv_at hl 3 rfl) ?_
            refine lv_if_le (tgt := 88) hx hb dX4_readNumber_81 (by decide) (fun c81 => ?_) (fun c81 => ?_)
            · refine lv_iconst (v := 0) hx hb dX4_readNumber_88 (by decide) ?_
              exact endZ hx hb hr hlk hP hK hD hS dX4_readNumber_89 rfl (false, upd Nf which.toNatClampNeg x2, pp) rfl ⟨(E_4).trans ((fX4_readNumber_4_s Cf Nf len pos which fu x2 x3 pp).trans ((if_pos c6).trans ((if_neg c61).trans ((if_neg c70).trans ((if_pos c81).trans rfl))))), rfl⟩
            · refine lv_iconst (v := 1) hx hb dX4_readNumber_84 (by decide) ?_
              refine lv_goto (tgt := 89) hx hb dX4_readNumber_85 (by decide) ?_
              exact endZ hx hb hr hlk hP hK hD hS dX4_readNumber_89 rfl (true, upd Nf which.toNatClampNeg x2, pp) rfl ⟨(E_4).trans ((fX4_readNumber_4_s Cf Nf len pos which fu x2 x3 pp).trans ((if_pos c6).trans ((if_neg c61).trans ((if_neg c70).trans ((if_neg c81).trans rfl))))), rfl⟩
      · refine lv_aload_n hx hb dX4_readNumber_9 rfl (lv_at hl 0 rfl) ?_
        refine lv_aload_n hx hb dX4_readNumber_10 rfl (lv_at hl 0 rfl) ?_
        refine va_get (D := D) (ci := 3) (C := RX4) (T := TX4) (N := 5) hx hb hts w_2 hown hK hP 0 rfl rfl 4 (by decide) w_3 (fun _ h9 => h9) rfl dX4_readNumber_11 ?_
        refine callVi (As := [.int pp]) (rest := []) (mX4_signAt l D cI cC cS _ cs ck cn ad Cf Nf len vb pp pp hC) ⟨hx, hb, hml, hown, hts⟩ (cwV 1 hts gX4_readNumber_X4_signAt rfl rfl rfl (by decide +kernel) ⟨Nat.le_of_ble_eq_true rfl, Nat.le_of_ble_eq_true rfl⟩) wN_blind (fun _ _ hW => wN_warm hW hX) hP hK hD hS hA hl [0, 1, 2] rfl rfl 0 3 rfl rfl rfl rfl rfl (Nat.le_of_ble_eq_true rfl) dX4_readNumber_14 ⟨Nat.zero_le _, Nat.zero_le _⟩ (fun _ => rfl) (fun u_ H locs hk2 hP hD hS => ?_)
        obtain ⟨r_2, e_r_2⟩ : ∃ z, z = u_ := ⟨_, rfl⟩
        subst e_r_2
        have hP : va_P D vwCl [(cs, .inr (3, [.ref ck, .ref cn, .int len, va_re ad vb, .int pp])), (ck, .inl (cC, 80, .inl Cf)), (cn, .inl (cI, 5, .inl Nf))] H := hP
        have hD : va_D Fr [(cs, .inr (3, [.ref ck, .ref cn, .int len, va_re ad vb, .int pp])), (ck, .inl (cC, 80, .inl Cf)), (cn, .inl (cI, 5, .inl Nf))] := hD
        refine W.eq (g2 := F0 m 17 ls [.int r_2]) rfl ?_
        refine lv_bipush (v := 48) hx hb dX4_readNumber_17 (by decide) ?_
        refine lv_bipush (v := 57) hx hb dX4_readNumber_19 (by decide) ?_
        refine callNi (As := [.int r_2, .int 48, .int 57]) (rest := []) (mX8_isWithin l D cI cC cS _ r_2 48 57) ⟨hx, hb, hml, hown, hts⟩ (⟨va_cnB 3 hts gX4_readNumber_X8_isWithin_n23 rfl rfl rfl hX.1 (hts (.initialized RX8) (List.mem_of_getElem? (i := 11) rfl)) (by decide +kernel) ⟨Nat.le_of_ble_eq_true rfl, Nat.le_of_ble_eq_true rfl⟩, hts (.static yX8_isWithin) (List.mem_of_getElem? (i := 10) rfl), trivial⟩) hP hK hD hS hA hl rfl rfl (Nat.le_of_ble_eq_true rfl) dX4_readNumber_21 ⟨Nat.zero_le _, Nat.zero_le _⟩ (fun u_ H locs hk4 hP hS => ?_)
        obtain ⟨r_4, e_r_4⟩ : ∃ z, z = u_ := ⟨_, rfl⟩
        subst e_r_4
        refine W.eq (g2 := F0 m 24 ls [.int (bi r_4)]) rfl ?_
        refine lv_if_eq (tgt := 60) hx hb dX4_readNumber_24 (by decide) (fun c24 => ?_) (fun c24 => ?_)
        · refine lv_iload_n hx hb dX4_readNumber_60 rfl (lv_at hl 1 rfl) ?_
          refine lv_if_lt (tgt := 80) hx hb dX4_readNumber_61 (by decide) (fun c61 => ?_) (fun c61 => ?_)
          · refine lv_iload_n hx hb dX4_readNumber_80 rfl (lv_at hl 3 rfl) ?_
            refine lv_if_le (tgt := 88) hx hb dX4_readNumber_81 (by decide) (fun c81 => ?_) (fun c81 => ?_)
            · refine lv_iconst (v := 0) hx hb dX4_readNumber_88 (by decide) ?_
              exact endZ hx hb hr hlk hP hK hD hS dX4_readNumber_89 rfl (false, Nf, pp) rfl ⟨(E_4).trans ((fX4_readNumber_4_s Cf Nf len pos which fu x2 x3 pp).trans ((if_neg c6).trans ((bd1_e hk2).trans ((bd1_e hk4).trans ((if_neg (bi_z c24)).trans ((if_pos c61).trans ((if_pos c81).trans rfl))))))), rfl⟩
            · refine lv_iconst (v := 1) hx hb dX4_readNumber_84 (by decide) ?_
              refine lv_goto (tgt := 89) hx hb dX4_readNumber_85 (by decide) ?_
              exact endZ hx hb hr hlk hP hK hD hS dX4_readNumber_89 rfl (true, Nf, pp) rfl ⟨(E_4).trans ((fX4_readNumber_4_s Cf Nf len pos which fu x2 x3 pp).trans ((if_neg c6).trans ((bd1_e hk2).trans ((bd1_e hk4).trans ((if_neg (bi_z c24)).trans ((if_pos c61).trans ((if_neg c81).trans rfl))))))), rfl⟩
          · refine lv_iload_n hx hb dX4_readNumber_64 rfl (lv_at hl 1 rfl) ?_
            refine lv_aload_n hx hb dX4_readNumber_65 rfl (lv_at hl 0 rfl) ?_
            refine va_get (D := D) (ci := 3) (C := RX4) (T := TX4) (N := 5) hx hb hts w_2 hown hK hP 0 rfl rfl 1 (by decide) w_1 (fun _ h9 => h9) rfl dX4_readNumber_66 ?_
            refine va_alen hx hb hK hP 2 0 rfl rfl rfl dX4_readNumber_69 ?_
            refine lv_icmp_ge (tgt := 80) hx hb dX4_readNumber_70 (by decide) (fun c70 => ?_) (fun c70 => ?_)
            · refine lv_iload_n hx hb dX4_readNumber_80 rfl (lv_at hl 3 rfl) ?_
              refine lv_if_le (tgt := 88) hx hb dX4_readNumber_81 (by decide) (fun c81 => ?_) (fun c81 => ?_)
              · refine lv_iconst (v := 0) hx hb dX4_readNumber_88 (by decide) ?_
                exact endZ hx hb hr hlk hP hK hD hS dX4_readNumber_89 rfl (false, Nf, pp) rfl ⟨(E_4).trans ((fX4_readNumber_4_s Cf Nf len pos which fu x2 x3 pp).trans ((if_neg c6).trans ((bd1_e hk2).trans ((bd1_e hk4).trans ((if_neg (bi_z c24)).trans ((if_neg c61).trans ((if_pos c70).trans ((if_pos c81).trans rfl)))))))), rfl⟩
              · refine lv_iconst (v := 1) hx hb dX4_readNumber_84 (by decide) ?_
                refine lv_goto (tgt := 89) hx hb dX4_readNumber_85 (by decide) ?_
                exact endZ hx hb hr hlk hP hK hD hS dX4_readNumber_89 rfl (true, Nf, pp) rfl ⟨(E_4).trans ((fX4_readNumber_4_s Cf Nf len pos which fu x2 x3 pp).trans ((if_neg c6).trans ((bd1_e hk2).trans ((bd1_e hk4).trans ((if_neg (bi_z c24)).trans ((if_neg c61).trans ((if_pos c70).trans ((if_neg c81).trans rfl)))))))), rfl⟩
            · refine lv_aload_n hx hb dX4_readNumber_73 rfl (lv_at hl 0 rfl) ?_
              refine va_get (D := D) (ci := 3) (C := RX4) (T := TX4) (N := 5) hx hb hts w_2 hown hK hP 0 rfl rfl 1 (by decide) w_1 (fun _ h9 => h9) rfl dX4_readNumber_74 ?_
              refine lv_iload_n hx hb dX4_readNumber_77 rfl (lv_at hl 1 rfl) ?_
              refine lv_iload_n hx hb dX4_readNumber_78 rfl (lv_at hl 2 rfl) ?_
              refine va_iast hx hb hK hP hD hS 2 0 rfl rfl (vp_in_of2 c61 c70 (by decide)) dX4_readNumber_79 (fun H locs hP hD hS => ?_)
              have hP : va_P D vwCl [(cs, .inr (3, [.ref ck, .ref cn, .int len, va_re ad vb, .int pp])), (ck, .inl (cC, 80, .inl Cf)), (cn, .inl (cI, 5, .inl (upd Nf which.toNatClampNeg x2)))] H := hP
              have hD : va_D Fr [(cs, .inr (3, [.ref ck, .ref cn, .int len, va_re ad vb, .int pp])), (ck, .inl (cC, 80, .inl Cf)), (cn, .inl (cI, 5, .inl (upd Nf which.toNatClampNeg x2)))] := hD
              refine lv_iload_n hx hb dX4_readNumber_80 rfl (lv_at hl 3 rfl) ?_
              refine lv_if_le (tgt := 88) hx hb dX4_readNumber_81 (by decide) (fun c81 => ?_) (fun c81 => ?_)
              · refine lv_iconst (v := 0) hx hb dX4_readNumber_88 (by decide) ?_
                exact endZ hx hb hr hlk hP hK hD hS dX4_readNumber_89 rfl (false, upd Nf which.toNatClampNeg x2, pp) rfl ⟨(E_4).trans ((fX4_readNumber_4_s Cf Nf len pos which fu x2 x3 pp).trans ((if_neg c6).trans ((bd1_e hk2).trans ((bd1_e hk4).trans ((if_neg (bi_z c24)).trans ((if_neg c61).trans ((if_neg c70).trans ((if_pos c81).trans rfl)))))))), rfl⟩
              · refine lv_iconst (v := 1) hx hb dX4_readNumber_84 (by decide) ?_
                refine lv_goto (tgt := 89) hx hb dX4_readNumber_85 (by decide) ?_
                exact endZ hx hb hr hlk hP hK hD hS dX4_readNumber_89 rfl (true, upd Nf which.toNatClampNeg x2, pp) rfl ⟨(E_4).trans ((fX4_readNumber_4_s Cf Nf len pos which fu x2 x3 pp).trans ((if_neg c6).trans ((bd1_e hk2).trans ((bd1_e hk4).trans ((if_neg (bi_z c24)).trans ((if_neg c61).trans ((if_neg c70).trans ((if_neg c81).trans rfl)))))))), rfl⟩
        · refine lv_iload_n hx hb dX4_readNumber_27 rfl (lv_at hl 2 rfl) ?_
          refine lv_bipush (v := 10) hx hb dX4_readNumber_28 (by decide) ?_
          refine lv_imul hx hb dX4_readNumber_30 ?_
          refine lv_aload_n hx hb dX4_readNumber_31 rfl (lv_at hl 0 rfl) ?_
          refine lv_aload_n hx hb dX4_readNumber_32 rfl (lv_at hl 0 rfl) ?_
          refine va_get (D := D) (ci := 3) (C := RX4) (T := TX4) (N := 5) hx hb hts w_2 hown hK hP 0 rfl rfl 4 (by decide) w_3 (fun _ h9 => h9) rfl dX4_readNumber_33 ?_
          refine callVi (As := [.int pp]) (rest := [.int (x2 * 10)]) (mX4_signAt l D cI cC cS _ cs ck cn ad Cf Nf len vb pp pp hC) ⟨hx, hb, hml, hown, hts⟩ (cwV 1 hts gX4_readNumber_X4_signAt rfl rfl rfl (by decide +kernel) ⟨Nat.le_of_ble_eq_true rfl, Nat.le_of_ble_eq_true rfl⟩) wN_blind (fun _ _ hW => wN_warm hW hX) hP hK hD hS hA hl [0, 1, 2] rfl rfl 0 3 rfl rfl rfl rfl rfl (Nat.le_of_ble_eq_true rfl) dX4_readNumber_36 ⟨Nat.zero_le _, Nat.zero_le _⟩ (fun _ => rfl) (fun u_ H locs hk6 hP hD hS => ?_)
          obtain ⟨r_6, e_r_6⟩ : ∃ z, z = u_ := ⟨_, rfl⟩
          subst e_r_6
          have hP : va_P D vwCl [(cs, .inr (3, [.ref ck, .ref cn, .int len, va_re ad vb, .int pp])), (ck, .inl (cC, 80, .inl Cf)), (cn, .inl (cI, 5, .inl Nf))] H := hP
          have hD : va_D Fr [(cs, .inr (3, [.ref ck, .ref cn, .int len, va_re ad vb, .int pp])), (ck, .inl (cC, 80, .inl Cf)), (cn, .inl (cI, 5, .inl Nf))] := hD
          refine W.eq (g2 := F0 m 39 ls [.int r_6, .int (x2 * 10)]) rfl ?_
          refine lv_bipush (v := 48) hx hb dX4_readNumber_39 (by decide) ?_
          refine lv_isub hx hb dX4_readNumber_41 ?_
          refine lv_iadd hx hb dX4_readNumber_42 ?_
          refine lv_topi (fun y_7 ey_7 => ?_)
          refine lv_istore_n (lv' := [(2, .int y_7), (0, .ref cs), (1, .int which), (3, .int x3)]) hx hb dX4_readNumber_43 rfl hl (by decide) rfl (fun ls hl => ?_)
          refine lv_iinc (v := x3 + 1) (lv' := [(3, .int (x3 + 1)), (2, .int y_7), (0, .ref cs), (1, .int which)]) hx hb dX4_readNumber_44 hl (k := 3) rfl (by rfl) (by decide) rfl (fun ls hl => ?_)
          refine lv_aload_n hx hb dX4_readNumber_47 rfl (lv_at hl 2 rfl) ?_
          refine lv_dup hx hb dX4_readNumber_48 rfl ?_
          refine va_get (D := D) (ci := 3) (C := RX4) (T := TX4) (N := 5) hx hb hts w_2 hown hK hP 0 rfl rfl 4 (by decide) w_3 (fun _ h9 => h9) rfl dX4_readNumber_49 ?_
          refine lv_iconst (v := 1) hx hb dX4_readNumber_52 (by decide) ?_
          refine lv_iadd hx hb dX4_readNumber_53 ?_
          refine va_put (D := D) (ci := 3) (v := .int (pp + 1)) (ty := .int) (C := RX4) (T := TX4) (N := 5) hx hb hts w_2 tyX4 tyX4_ok nmX4 hown hK hP hD hS 0 rfl rfl 4 (by decide) w_3 (fun _ h9 => h9) rfl (by decide +kernel) rfl rfl (Nat.le_of_ble_eq_true rfl) dX4_readNumber_54 (fun H locs hP hD hS => ?_)
          have hP : va_P D vwCl [(cs, .inr (3, [.ref ck, .ref cn, .int len, va_re ad vb, .int (pp + 1)])), (ck, .inl (cC, 80, .inl Cf)), (cn, .inl (cI, 5, .inl Nf))] H := hP
          have hD : va_D Fr [(cs, .inr (3, [.ref ck, .ref cn, .int len, va_re ad vb, .int (pp + 1)])), (ck, .inl (cC, 80, .inl Cf)), (cn, .inl (cI, 5, .inl Nf))] := hD
          refine lv_goto (tgt := 4) hx hb dX4_readNumber_57 (by decide) ?_
          exact ih_4 y_7 (x3 + 1) (pp + 1) _ _ ls hP hD hS (lv_sub hl [2, 3, 1, 0] rfl) (Nat.lt_of_lt_of_le (lp_dec c6) (Nat.le_of_lt_succ hm_4)) ((E_4).trans ((fX4_readNumber_4_s Cf Nf len pos which fu x2 x3 pp).trans ((if_neg c6).trans ((bd1_e hk2).trans ((bd1_e hk4).trans ((if_pos (bi_o c24)).trans ((bd1_e hk6).trans ((bd1_n ey_7).trans rfl))))))))
  exact K_4 (((3 : Int32).toInt - (0 : Int32).toInt).toNat + 1) 0 0 pos _ _ ls hP hD hS (lv_sub hl [2, 3, 1, 0] rfl) (Nat.lt_succ_self _) rfl

