/-- the value of X9_here, path by path -/
def fX9_here (Tx : Nat → Int32) (ln : Int32) (ps : Int32) : Int32 :=
  (if ln ≤ ps then (-1) else Tx ps.toNatClampNeg)

set_option maxHeartbeats 4000000 in
set_option maxRecDepth 100000 in
/-- X9_here -/
theorem mX9_here (l : Launch) (D : va_G) (cI cC cS : ClassId) (sz : Nat) (o : Nat) (q1 : Nat) (q2 : Nat) (q3 : Nat) (q4 : Nat) (q5 : Nat) (S : Nat → Int32) (Bg : Nat → Int32) (Pa : Nat → Int32) (Tx : Nat → Int32) (Nu : Nat → Int32) (st : Int32) (ln : Int32) (ps : Int32) (fm : Bool) (rs : Int32) (hL : vp_in ln 81) (hp : ¬ ps < 0) : Met l yX9_here wsX9_here ({ frames := 0, cells := 0, slots := 0, locals := 0 } : Jvm.Room) (va_Pc [.ref o] (wPre D (TY cI cC cS) [(o, .inr (7, [.ref q1, .ref q2, .ref q3, .int st, .ref q4, .int ln, .int ps, .int (bi fm), .int rs, .ref q5])), (q1, .inl (cI, 314, .inl S)), (q2, .inl (cI, 314, .inl Bg)), (q3, .inl (cI, 1256, .inl Pa)), (q4, .inl (cI, 80, .inl Tx)), (q5, .inl (cI, 5, .inl Nu))] sz X0)) (qI D (TY cI cC cS) (fun (r : Int32) (u : Int32) => fX9_here Tx ln ps = u ∧ r = u) (fun u => [(o, .inr (7, [.ref q1, .ref q2, .ref q3, .int st, .ref q4, .int ln, .int ps, .int (bi fm), .int rs, .ref q5])), (q1, .inl (cI, 314, .inl S)), (q2, .inl (cI, 314, .inl Bg)), (q3, .inl (cI, 1256, .inl Pa)), (q4, .inl (cI, 80, .inl Tx)), (q5, .inl (cI, 5, .inl Nu))]) (va_A [(o, .inr (7, [.ref q1, .ref q2, .ref q3, .int st, .ref q4, .int ln, .int ps, .int (bi fm), .int rs, .ref q5])), (q1, .inl (cI, 314, .inl S)), (q2, .inl (cI, 314, .inl Bg)), (q3, .inl (cI, 1256, .inl Pa)), (q4, .inl (cI, 80, .inl Tx)), (q5, .inl (cI, 5, .inl Nu))] sz)) 0 0 (va_A [(o, .inr (7, [.ref q1, .ref q2, .ref q3, .int st, .ref q4, .int ln, .int ps, .int (bi fm), .int rs, .ref q5])), (q1, .inl (cI, 314, .inl S)), (q2, .inl (cI, 314, .inl Bg)), (q3, .inl (cI, 1256, .inl Pa)), (q4, .inl (cI, 80, .inl Tx)), (q5, .inl (cI, 5, .inl Nu))] sz) := by
  refine mkM (fun Fr => qI D (TY cI cC cS) (fun (r : Int32) (u : Int32) => fX9_here Tx ln ps = u ∧ r = u) (fun u => [(o, .inr (7, [.ref q1, .ref q2, .ref q3, .int st, .ref q4, .int ln, .int ps, .int (bi fm), .int rs, .ref q5])), (q1, .inl (cI, 314, .inl S)), (q2, .inl (cI, 314, .inl Bg)), (q3, .inl (cI, 1256, .inl Pa)), (q4, .inl (cI, 80, .inl Tx)), (q5, .inl (cI, 5, .inl Nu))]) Fr) (cc := cX9_here) (maxL := 1) (ret := (some .int)) (own := RX9) (lv := [(0, .ref o)]) (by decide) rfl rfl (Nat.le_of_ble_eq_true rfl) rfl ?_
  intro p e s m below meth c Fr ls hx hb hr hts hown hml hlk hin hP hK hD hS hA hAe hsz hX hl
  have w_1 := hts (.fieldLink RX9 145 "FieldQuotasModel" "at" "I") (List.mem_of_getElem? (i := 1) rfl)
  have w_2 := sub_r (big := wsX9_here) (u_ws RX9 TX9 10) [4, 5, 6, 7, 8, 9, 10, 11, 12, 13] rfl
  have w_3 := hts (.fieldLink RX9 133 "FieldQuotasModel" "length" "I") (List.mem_of_getElem? (i := 2) rfl)
  have w_4 := hts (.fieldLink RX9 19 "FieldQuotasModel" "text" "[I") (List.mem_of_getElem? (i := 3) rfl)
  refine lv_aload_n hx hb dX9_here_0 rfl (lv_at hl 0 rfl) ?_
  refine va_get (D := D) (ci := 7) (C := RX9) (T := TX9) (N := 10) hx hb hts w_2 hown hK hP 0 rfl rfl 6 (by decide) w_1 (fun _ h9 => h9) rfl dX9_here_1 ?_
  refine lv_aload_n hx hb dX9_here_4 rfl (lv_at hl 0 rfl) ?_
  refine va_get (D := D) (ci := 7) (C := RX9) (T := TX9) (N := 10) hx hb hts w_2 hown hK hP 0 rfl rfl 5 (by decide) w_3 (fun _ h9 => h9) rfl dX9_here_5 ?_
  refine lv_icmp_ge (tgt := 23) hx hb dX9_here_8 (by decide) (fun c8 => ?_) (fun c8 => ?_)
  · refine lv_iconst (v := (-1)) hx hb dX9_here_23 (by decide) ?_
    exact endI hx hb hr hlk hP hK hD hS dX9_here_24 (-1) rfl ⟨(if_pos c8).trans rfl, rfl⟩
  · refine lv_aload_n hx hb dX9_here_11 rfl (lv_at hl 0 rfl) ?_
    refine va_get (D := D) (ci := 7) (C := RX9) (T := TX9) (N := 10) hx hb hts w_2 hown hK hP 0 rfl rfl 4 (by decide) w_4 (fun _ h9 => h9) rfl dX9_here_12 ?_
    refine lv_aload_n hx hb dX9_here_15 rfl (lv_at hl 0 rfl) ?_
    refine va_get (D := D) (ci := 7) (C := RX9) (T := TX9) (N := 10) hx hb hts w_2 hown hK hP 0 rfl rfl 6 (by decide) w_1 (fun _ h9 => h9) rfl dX9_here_16 ?_
    refine va_iald hx hb hK hP 4 0 rfl rfl (vp_k hp c8 hL) dX9_here_19 ?_
    refine lv_goto (tgt := 24) hx hb dX9_here_20 (by decide) ?_
    exact endI hx hb hr hlk hP hK hD hS dX9_here_24 (Tx ps.toNatClampNeg) rfl ⟨(if_neg c8).trans rfl, rfl⟩

/-- the value of X9_must, path by path -/
def fX9_must (Tx : Nat → Int32) (ln : Int32) (ps : Int32) (fm : Bool) (sign : Int32) : Int32 × Bool :=
  (if fm = true then bd1 (fX9_here Tx ln ps) (fun (r_2 : Int32) => (if r_2 = sign then (ps + 1, true) else (ps + 1, false))) else (ps + 1, false))

set_option maxHeartbeats 4000000 in
set_option maxRecDepth 100000 in
/-- X9_must -/
theorem mX9_must (l : Launch) (D : va_G) (cI cC cS : ClassId) (sz : Nat) (o : Nat) (q1 : Nat) (q2 : Nat) (q3 : Nat) (q4 : Nat) (q5 : Nat) (S : Nat → Int32) (Bg : Nat → Int32) (Pa : Nat → Int32) (Tx : Nat → Int32) (Nu : Nat → Int32) (st : Int32) (ln : Int32) (ps : Int32) (fm : Bool) (rs : Int32) (sign : Int32) (hL : vp_in ln 81) (hp : ¬ ps < 0) : Met l yX9_must wsX9_must ({ frames := 1, cells := 0, slots := 0, locals := 20 } : Jvm.Room) (va_Pc [.ref o, .int sign] (wPre D (TY cI cC cS) [(o, .inr (7, [.ref q1, .ref q2, .ref q3, .int st, .ref q4, .int ln, .int ps, .int (bi fm), .int rs, .ref q5])), (q1, .inl (cI, 314, .inl S)), (q2, .inl (cI, 314, .inl Bg)), (q3, .inl (cI, 1256, .inl Pa)), (q4, .inl (cI, 80, .inl Tx)), (q5, .inl (cI, 5, .inl Nu))] sz X0)) (qV D (TY cI cC cS) (fun (u : Int32 × Bool) => fX9_must Tx ln ps fm sign = u) (fun u => [(o, .inr (7, [.ref q1, .ref q2, .ref q3, .int st, .ref q4, .int ln, .int u.1, .int (bi u.2), .int rs, .ref q5])), (q1, .inl (cI, 314, .inl S)), (q2, .inl (cI, 314, .inl Bg)), (q3, .inl (cI, 1256, .inl Pa)), (q4, .inl (cI, 80, .inl Tx)), (q5, .inl (cI, 5, .inl Nu))]) (va_A [(o, .inr (7, [.ref q1, .ref q2, .ref q3, .int st, .ref q4, .int ln, .int ps, .int (bi fm), .int rs, .ref q5])), (q1, .inl (cI, 314, .inl S)), (q2, .inl (cI, 314, .inl Bg)), (q3, .inl (cI, 1256, .inl Pa)), (q4, .inl (cI, 80, .inl Tx)), (q5, .inl (cI, 5, .inl Nu))] sz)) 0 0 (va_A [(o, .inr (7, [.ref q1, .ref q2, .ref q3, .int st, .ref q4, .int ln, .int ps, .int (bi fm), .int rs, .ref q5])), (q1, .inl (cI, 314, .inl S)), (q2, .inl (cI, 314, .inl Bg)), (q3, .inl (cI, 1256, .inl Pa)), (q4, .inl (cI, 80, .inl Tx)), (q5, .inl (cI, 5, .inl Nu))] sz) := by
  refine mkM (fun Fr => qV D (TY cI cC cS) (fun (u : Int32 × Bool) => fX9_must Tx ln ps fm sign = u) (fun u => [(o, .inr (7, [.ref q1, .ref q2, .ref q3, .int st, .ref q4, .int ln, .int u.1, .int (bi u.2), .int rs, .ref q5])), (q1, .inl (cI, 314, .inl S)), (q2, .inl (cI, 314, .inl Bg)), (q3, .inl (cI, 1256, .inl Pa)), (q4, .inl (cI, 80, .inl Tx)), (q5, .inl (cI, 5, .inl Nu))]) Fr) (cc := cX9_must) (maxL := 2) (ret := none) (own := RX9) (lv := [(0, .ref o), (1, .int sign)]) (by decide) rfl rfl (Nat.le_of_ble_eq_true rfl) rfl ?_
  intro p e s m below meth c Fr ls hx hb hr hts hown hml hlk hin hP hK hD hS hA hAe hsz hX hl
  have w_1 := hts (.fieldLink RX9 148 "FieldQuotasModel" "isForm" "Z") (List.mem_of_getElem? (i := 1) rfl)
  have w_2 := sub_r (big := wsX9_must) (u_ws RX9 TX9 10) [10, 11, 12, 13, 14, 15, 16, 17, 18, 19] rfl
  have w_3 := hts (.fieldLink RX9 145 "FieldQuotasModel" "at" "I") (List.mem_of_getElem? (i := 2) rfl)
  refine lv_aload_n hx hb dX9_must_0 rfl (lv_at hl 0 rfl) ?_
  refine lv_aload_n hx hb dX9_must_1 rfl (lv_at hl 0 rfl) ?_
  refine va_get (D := D) (ci := 7) (C := RX9) (T := TX9) (N := 10) hx hb hts w_2 hown hK hP 0 rfl rfl 7 (by decide) w_1 (fun _ h9 => h9) rfl dX9_must_2 ?_
  refine lv_if_eq (tgt := 20) hx hb dX9_must_5 (by decide) (fun c5 => ?_) (fun c5 => ?_)
  · refine lv_iconst (v := 0) hx hb dX9_must_20 (by decide) ?_
    refine va_put (D := D) (ci := 7) (v := .int 0) (ty := .boolean) (C := RX9) (T := TX9) (N := 10) hx hb hts w_2 tyX9 tyX9_ok nmX9 hown hK hP hD hS 0 rfl rfl 7 (by decide) w_1 (fun _ h9 => h9) rfl (by decide +kernel) rfl rfl (Nat.le_of_ble_eq_true rfl) dX9_must_21 (fun H locs hP hD hS => ?_)
    have hP : va_P D vwCl [(o, .inr (7, [.ref q1, .ref q2, .ref q3, .int st, .ref q4, .int ln, .int ps, .int 0, .int rs, .ref q5])), (q1, .inl (cI, 314, .inl S)), (q2, .inl (cI, 314, .inl Bg)), (q3, .inl (cI, 1256, .inl Pa)), (q4, .inl (cI, 80, .inl Tx)), (q5, .inl (cI, 5, .inl Nu))] H := hP
    have hD : va_D Fr [(o, .inr (7, [.ref q1, .ref q2, .ref q3, .int st, .ref q4, .int ln, .int ps, .int 0, .int rs, .ref q5])), (q1, .inl (cI, 314, .inl S)), (q2, .inl (cI, 314, .inl Bg)), (q3, .inl (cI, 1256, .inl Pa)), (q4, .inl (cI, 80, .inl Tx)), (q5, .inl (cI, 5, .inl Nu))] := hD
    refine lv_aload_n hx hb dX9_must_24 rfl (lv_at hl 0 rfl) ?_
    refine lv_dup hx hb dX9_must_25 rfl ?_
    refine va_get (D := D) (ci := 7) (C := RX9) (T := TX9) (N := 10) hx hb hts w_2 hown hK hP 0 rfl rfl 6 (by decide) w_3 (fun _ h9 => h9) rfl dX9_must_26 ?_
    refine lv_iconst (v := 1) hx hb dX9_must_29 (by decide) ?_
    refine lv_iadd hx hb dX9_must_30 ?_
    refine va_put (D := D) (ci := 7) (v := .int (ps + 1)) (ty := .int) (C := RX9) (T := TX9) (N := 10) hx hb hts w_2 tyX9 tyX9_ok nmX9 hown hK hP hD hS 0 rfl rfl 6 (by decide) w_3 (fun _ h9 => h9) rfl (by decide +kernel) rfl rfl (Nat.le_of_ble_eq_true rfl) dX9_must_31 (fun H locs hP hD hS => ?_)
    have hP : va_P D vwCl [(o, .inr (7, [.ref q1, .ref q2, .ref q3, .int st, .ref q4, .int ln, .int (ps + 1), .int 0, .int rs, .ref q5])), (q1, .inl (cI, 314, .inl S)), (q2, .inl (cI, 314, .inl Bg)), (q3, .inl (cI, 1256, .inl Pa)), (q4, .inl (cI, 80, .inl Tx)), (q5, .inl (cI, 5, .inl Nu))] H := hP
    have hD : va_D Fr [(o, .inr (7, [.ref q1, .ref q2, .ref q3, .int st, .ref q4, .int ln, .int (ps + 1), .int 0, .int rs, .ref q5])), (q1, .inl (cI, 314, .inl S)), (q2, .inl (cI, 314, .inl Bg)), (q3, .inl (cI, 1256, .inl Pa)), (q4, .inl (cI, 80, .inl Tx)), (q5, .inl (cI, 5, .inl Nu))] := hD
    exact endV hx hb hr hlk hP hK hD hS dX9_must_34 (ps + 1, false) rfl ((if_neg (bi_z c5)).trans rfl)
  · refine lv_aload_n hx hb dX9_must_8 rfl (lv_at hl 0 rfl) ?_
    refine callVi (As := []) (rest := [.ref o]) (mX9_here l D cI cC cS _ o q1 q2 q3 q4 q5 S Bg Pa Tx Nu st ln ps fm rs hL hp) ⟨hx, hb, hml, hown, hts⟩ (cwV 0 hts gX9_must_X9_here rfl rfl rfl (by decide +kernel) ⟨Nat.le_of_ble_eq_true rfl, Nat.le_of_ble_eq_true rfl⟩) X0_blind (fun _ _ _ => trivial) hP hK hD hS hA hl [0, 1, 2, 3, 4, 5] rfl rfl 0 7 rfl rfl rfl rfl rfl (Nat.le_of_ble_eq_true rfl) dX9_must_9 ⟨Nat.zero_le _, Nat.zero_le _⟩ (fun _ => rfl) (fun u_ H locs hk2 hP hD hS => ?_)
    obtain ⟨r_2, e_r_2⟩ : ∃ z, z = u_ := ⟨_, rfl⟩
    subst e_r_2
    have hP : va_P D vwCl [(o, .inr (7, [.ref q1, .ref q2, .ref q3, .int st, .ref q4, .int ln, .int ps, .int (bi fm), .int rs, .ref q5])), (q1, .inl (cI, 314, .inl S)), (q2, .inl (cI, 314, .inl Bg)), (q3, .inl (cI, 1256, .inl Pa)), (q4, .inl (cI, 80, .inl Tx)), (q5, .inl (cI, 5, .inl Nu))] H := hP
    have hD : va_D Fr [(o, .inr (7, [.ref q1, .ref q2, .ref q3, .int st, .ref q4, .int ln, .int ps, .int (bi fm), .int rs, .ref q5])), (q1, .inl (cI, 314, .inl S)), (q2, .inl (cI, 314, .inl Bg)), (q3, .inl (cI, 1256, .inl Pa)), (q4, .inl (cI, 80, .inl Tx)), (q5, .inl (cI, 5, .inl Nu))] := hD
    refine W.eq (g2 := F0 m 12 ls [.int r_2, .ref o]) rfl ?_
    refine lv_iload_n hx hb dX9_must_12 rfl (lv_at hl 1 rfl) ?_
    refine lv_icmp_ne (tgt := 20) hx hb dX9_must_13 (by decide) (fun c13 => ?_) (fun c13 => ?_)
    · refine lv_iconst (v := 0) hx hb dX9_must_20 (by decide) ?_
      refine va_put (D := D) (ci := 7) (v := .int 0) (ty := .boolean) (C := RX9) (T := TX9) (N := 10) hx hb hts w_2 tyX9 tyX9_ok nmX9 hown hK hP hD hS 0 rfl rfl 7 (by decide) w_1 (fun _ h9 => h9) rfl (by decide +kernel) rfl rfl (Nat.le_of_ble_eq_true rfl) dX9_must_21 (fun H locs hP hD hS => ?_)
      have hP : va_P D vwCl [(o, .inr (7, [.ref q1, .ref q2, .ref q3, .int st, .ref q4, .int ln, .int ps, .int 0, .int rs, .ref q5])), (q1, .inl (cI, 314, .inl S)), (q2, .inl (cI, 314, .inl Bg)), (q3, .inl (cI, 1256, .inl Pa)), (q4, .inl (cI, 80, .inl Tx)), (q5, .inl (cI, 5, .inl Nu))] H := hP
      have hD : va_D Fr [(o, .inr (7, [.ref q1, .ref q2, .ref q3, .int st, .ref q4, .int ln, .int ps, .int 0, .int rs, .ref q5])), (q1, .inl (cI, 314, .inl S)), (q2, .inl (cI, 314, .inl Bg)), (q3, .inl (cI, 1256, .inl Pa)), (q4, .inl (cI, 80, .inl Tx)), (q5, .inl (cI, 5, .inl Nu))] := hD
      refine lv_aload_n hx hb dX9_must_24 rfl (lv_at hl 0 rfl) ?_
      refine lv_dup hx hb dX9_must_25 rfl ?_
      refine va_get (D := D) (ci := 7) (C := RX9) (T := TX9) (N := 10) hx hb hts w_2 hown hK hP 0 rfl rfl 6 (by decide) w_3 (fun _ h9 => h9) rfl dX9_must_26 ?_
      refine lv_iconst (v := 1) hx hb dX9_must_29 (by decide) ?_
      refine lv_iadd hx hb dX9_must_30 ?_
      refine va_put (D := D) (ci := 7) (v := .int (ps + 1)) (ty := .int) (C := RX9) (T := TX9) (N := 10) hx hb hts w_2 tyX9 tyX9_ok nmX9 hown hK hP hD hS 0 rfl rfl 6 (by decide) w_3 (fun _ h9 => h9) rfl (by decide +kernel) rfl rfl (Nat.le_of_ble_eq_true rfl) dX9_must_31 (fun H locs hP hD hS => ?_)
      have hP : va_P D vwCl [(o, .inr (7, [.ref q1, .ref q2, .ref q3, .int st, .ref q4, .int ln, .int (ps + 1), .int 0, .int rs, .ref q5])), (q1, .inl (cI, 314, .inl S)), (q2, .inl (cI, 314, .inl Bg)), (q3, .inl (cI, 1256, .inl Pa)), (q4, .inl (cI, 80, .inl Tx)), (q5, .inl (cI, 5, .inl Nu))] H := hP
      have hD : va_D Fr [(o, .inr (7, [.ref q1, .ref q2, .ref q3, .int st, .ref q4, .int ln, .int (ps + 1), .int 0, .int rs, .ref q5])), (q1, .inl (cI, 314, .inl S)), (q2, .inl (cI, 314, .inl Bg)), (q3, .inl (cI, 1256, .inl Pa)), (q4, .inl (cI, 80, .inl Tx)), (q5, .inl (cI, 5, .inl Nu))] := hD
      exact endV hx hb hr hlk hP hK hD hS dX9_must_34 (ps + 1, false) rfl ((if_pos (bi_o c5)).trans ((bd1_e hk2).trans ((if_neg c13).trans rfl)))
    · refine lv_iconst (v := 1) hx hb dX9_must_16 (by decide) ?_
      refine lv_goto (tgt := 21) hx hb dX9_must_17 (by decide) ?_
      refine va_put (D := D) (ci := 7) (v := .int 1) (ty := .boolean) (C := RX9) (T := TX9) (N := 10) hx hb hts w_2 tyX9 tyX9_ok nmX9 hown hK hP hD hS 0 rfl rfl 7 (by decide) w_1 (fun _ h9 => h9) rfl (by decide +kernel) rfl rfl (Nat.le_of_ble_eq_true rfl) dX9_must_21 (fun H locs hP hD hS => ?_)
      have hP : va_P D vwCl [(o, .inr (7, [.ref q1, .ref q2, .ref q3, .int st, .ref q4, .int ln, .int ps, .int 1, .int rs, .ref q5])), (q1, .inl (cI, 314, .inl S)), (q2, .inl (cI, 314, .inl Bg)), (q3, .inl (cI, 1256, .inl Pa)), (q4, .inl (cI, 80, .inl Tx)), (q5, .inl (cI, 5, .inl Nu))] H := hP
      have hD : va_D Fr [(o, .inr (7, [.ref q1, .ref q2, .ref q3, .int st, .ref q4, .int ln, .int ps, .int 1, .int rs, .ref q5])), (q1, .inl (cI, 314, .inl S)), (q2, .inl (cI, 314, .inl Bg)), (q3, .inl (cI, 1256, .inl Pa)), (q4, .inl (cI, 80, .inl Tx)), (q5, .inl (cI, 5, .inl Nu))] := hD
      refine lv_aload_n hx hb dX9_must_24 rfl (lv_at hl 0 rfl) ?_
      refine lv_dup hx hb dX9_must_25 rfl ?_
      refine va_get (D := D) (ci := 7) (C := RX9) (T := TX9) (N := 10) hx hb hts w_2 hown hK hP 0 rfl rfl 6 (by decide) w_3 (fun _ h9 => h9) rfl dX9_must_26 ?_
      refine lv_iconst (v := 1) hx hb dX9_must_29 (by decide) ?_
      refine lv_iadd hx hb dX9_must_30 ?_
      refine va_put (D := D) (ci := 7) (v := .int (ps + 1)) (ty := .int) (C := RX9) (T := TX9) (N := 10) hx hb hts w_2 tyX9 tyX9_ok nmX9 hown hK hP hD hS 0 rfl rfl 6 (by decide) w_3 (fun _ h9 => h9) rfl (by decide +kernel) rfl rfl (Nat.le_of_ble_eq_true rfl) dX9_must_31 (fun H locs hP hD hS => ?_)
      have hP : va_P D vwCl [(o, .inr (7, [.ref q1, .ref q2, .ref q3, .int st, .ref q4, .int ln, .int (ps + 1), .int 1, .int rs, .ref q5])), (q1, .inl (cI, 314, .inl S)), (q2, .inl (cI, 314, .inl Bg)), (q3, .inl (cI, 1256, .inl Pa)), (q4, .inl (cI, 80, .inl Tx)), (q5, .inl (cI, 5, .inl Nu))] H := hP
      have hD : va_D Fr [(o, .inr (7, [.ref q1, .ref q2, .ref q3, .int st, .ref q4, .int ln, .int (ps + 1), .int 1, .int rs, .ref q5])), (q1, .inl (cI, 314, .inl S)), (q2, .inl (cI, 314, .inl Bg)), (q3, .inl (cI, 1256, .inl Pa)), (q4, .inl (cI, 80, .inl Tx)), (q5, .inl (cI, 5, .inl Nu))] := hD
      exact endV hx hb hr hlk hP hK hD hS dX9_must_34 (ps + 1, true) rfl ((if_pos (bi_o c5)).trans ((bd1_e hk2).trans ((if_pos c13).trans rfl)))

/-- the value of X9_wordOf, path by path -/
def fX9_wordOf (k : Int32) : Int64 :=
  (if k = 0 then 27413455319692147 else if k = 1 then 487301543009 else if k = 2 then 1852796517 else if k = 3 then 125779836236645 else if k = 4 then 1952541541 else if k = 5 then 465491486066 else 6578553)

set_option maxHeartbeats 4000000 in
set_option maxRecDepth 100000 in
/-- X9_wordOf -/
theorem mX9_wordOf (l : Launch) (D : va_G) (cI cC cS : ClassId) (sz : Nat) (k : Int32)  : Met l yX9_wordOf wsX9_wordOf ({ frames := 0, cells := 0, slots := 0, locals := 0 } : Jvm.Room) (va_Pc [.int k] (wPre D (TY cI cC cS) [] sz X0)) (qL D (TY cI cC cS) (fun (r : Int64) (u : Int64) => fX9_wordOf k = u ∧ r = u) (fun u => []) (va_A [] sz)) 0 0 (va_A [] sz) := by
  refine mkM (fun Fr => qL D (TY cI cC cS) (fun (r : Int64) (u : Int64) => fX9_wordOf k = u ∧ r = u) (fun u => []) Fr) (cc := cX9_wordOf) (maxL := 1) (ret := (some .long)) (own := RX9) (lv := [(0, .int k)]) (by decide) rfl rfl (Nat.le_of_ble_eq_true rfl) rfl ?_
  intro p e s m below meth c Fr ls hx hb hr hts hown hml hlk hin hP hK hD hS hA hAe hsz hX hl
  have w_1 := hts (.constantLong RX9 159 (27413455319692147)) (List.mem_of_getElem? (i := 1) rfl)
  have w_2 := hts (.constantLong RX9 161 (487301543009)) (List.mem_of_getElem? (i := 2) rfl)
  have w_3 := hts (.constantLong RX9 163 (1852796517)) (List.mem_of_getElem? (i := 3) rfl)
  have w_4 := hts (.constantLong RX9 165 (125779836236645)) (List.mem_of_getElem? (i := 4) rfl)
  have w_5 := hts (.constantLong RX9 167 (1952541541)) (List.mem_of_getElem? (i := 5) rfl)
  have w_6 := hts (.constantLong RX9 169 (465491486066)) (List.mem_of_getElem? (i := 6) rfl)
  have w_7 := hts (.constantLong RX9 171 (6578553)) (List.mem_of_getElem? (i := 7) rfl)
  refine lv_iload_n hx hb dX9_wordOf_0 rfl (lv_at hl 0 rfl) ?_
  by_cases c1_0 : k = 0
  · refine lv_tableIn (tgt := 40) hx hb dX9_wordOf_1 (by rw [c1_0]; decide) (by rw [c1_0]; decide) (by rw [c1_0]; rfl) (by decide) ?_
    refine lv_ldc2 hx hb hown w_1 dX9_wordOf_40 ?_
    exact endL hx hb hr hlk hP hK hD hS dX9_wordOf_43 27413455319692147 rfl ⟨(if_pos c1_0).trans rfl, rfl⟩
  by_cases c1_1 : k = 1
  · refine lv_tableIn (tgt := 44) hx hb dX9_wordOf_1 (by rw [c1_1]; decide) (by rw [c1_1]; decide) (by rw [c1_1]; rfl) (by decide) ?_
    refine lv_ldc2 hx hb hown w_2 dX9_wordOf_44 ?_
    exact endL hx hb hr hlk hP hK hD hS dX9_wordOf_47 487301543009 rfl ⟨(if_neg c1_0).trans ((if_pos c1_1).trans rfl), rfl⟩
  by_cases c1_2 : k = 2
  · refine lv_tableIn (tgt := 48) hx hb dX9_wordOf_1 (by rw [c1_2]; decide) (by rw [c1_2]; decide) (by rw [c1_2]; rfl) (by decide) ?_
    refine lv_ldc2 hx hb hown w_3 dX9_wordOf_48 ?_
    exact endL hx hb hr hlk hP hK hD hS dX9_wordOf_51 1852796517 rfl ⟨(if_neg c1_0).trans ((if_neg c1_1).trans ((if_pos c1_2).trans rfl)), rfl⟩
  by_cases c1_3 : k = 3
  · refine lv_tableIn (tgt := 52) hx hb dX9_wordOf_1 (by rw [c1_3]; decide) (by rw [c1_3]; decide) (by rw [c1_3]; rfl) (by decide) ?_
    refine lv_ldc2 hx hb hown w_4 dX9_wordOf_52 ?_
    exact endL hx hb hr hlk hP hK hD hS dX9_wordOf_55 125779836236645 rfl ⟨(if_neg c1_0).trans ((if_neg c1_1).trans ((if_neg c1_2).trans ((if_pos c1_3).trans rfl))), rfl⟩
  by_cases c1_4 : k = 4
  · refine lv_tableIn (tgt := 56) hx hb dX9_wordOf_1 (by rw [c1_4]; decide) (by rw [c1_4]; decide) (by rw [c1_4]; rfl) (by decide) ?_
    refine lv_ldc2 hx hb hown w_5 dX9_wordOf_56 ?_
    exact endL hx hb hr hlk hP hK hD hS dX9_wordOf_59 1952541541 rfl ⟨(if_neg c1_0).trans ((if_neg c1_1).trans ((if_neg c1_2).trans ((if_neg c1_3).trans ((if_pos c1_4).trans rfl)))), rfl⟩
  by_cases c1_5 : k = 5
  · refine lv_tableIn (tgt := 60) hx hb dX9_wordOf_1 (by rw [c1_5]; decide) (by rw [c1_5]; decide) (by rw [c1_5]; rfl) (by decide) ?_
    refine lv_ldc2 hx hb hown w_6 dX9_wordOf_60 ?_
    exact endL hx hb hr hlk hP hK hD hS dX9_wordOf_63 465491486066 rfl ⟨(if_neg c1_0).trans ((if_neg c1_1).trans ((if_neg c1_2).trans ((if_neg c1_3).trans ((if_neg c1_4).trans ((if_pos c1_5).trans rfl))))), rfl⟩
  refine lv_tableOut (tgt := 64) hx hb dX9_wordOf_1 (tab_out (lo := 0) (hi := 5) (by decide) (fun k kk1 kk2 => ?_)) (by decide) ?_
  · rcases (show k = 0 ∨ k = 1 ∨ k = 2 ∨ k = 3 ∨ k = 4 ∨ k = 5 by omega) with rfl | rfl | rfl | rfl | rfl | rfl
    · exact ne_ti c1_0 (by decide)
    · exact ne_ti c1_1 (by decide)
    · exact ne_ti c1_2 (by decide)
    · exact ne_ti c1_3 (by decide)
    · exact ne_ti c1_4 (by decide)
    · exact ne_ti c1_5 (by decide)
  refine lv_ldc2 hx hb hown w_7 dX9_wordOf_64 ?_
  exact endL hx hb hr hlk hP hK hD hS dX9_wordOf_67 6578553 rfl ⟨(if_neg c1_0).trans ((if_neg c1_1).trans ((if_neg c1_2).trans ((if_neg c1_3).trans ((if_neg c1_4).trans ((if_neg c1_5).trans rfl))))), rfl⟩

/-- the value of X9_manyOf, path by path -/
def fX9_manyOf (k : Int32) : Int32 :=
  (if k = 0 then 1 else (if k = 6 then 1 else (if (4 : Int32) ≤ k then k else 3)))

set_option maxHeartbeats 4000000 in
set_option maxRecDepth 100000 in
/-- X9_manyOf -/
theorem mX9_manyOf (l : Launch) (D : va_G) (cI cC cS : ClassId) (sz : Nat) (k : Int32)  : Met l yX9_manyOf wsX9_manyOf ({ frames := 0, cells := 0, slots := 0, locals := 0 } : Jvm.Room) (va_Pc [.int k] (wPre D (TY cI cC cS) [] sz X0)) (qI D (TY cI cC cS) (fun (r : Int32) (u : Int32) => fX9_manyOf k = u ∧ r = u) (fun u => []) (va_A [] sz)) 0 0 (va_A [] sz) := by
  refine mkM (fun Fr => qI D (TY cI cC cS) (fun (r : Int32) (u : Int32) => fX9_manyOf k = u ∧ r = u) (fun u => []) Fr) (cc := cX9_manyOf) (maxL := 1) (ret := (some .int)) (own := RX9) (lv := [(0, .int k)]) (by decide) rfl rfl (Nat.le_of_ble_eq_true rfl) rfl ?_
  intro p e s m below meth c Fr ls hx hb hr hts hown hml hlk hin hP hK hD hS hA hAe hsz hX hl
  refine lv_iload_n hx hb dX9_manyOf_0 rfl (lv_at hl 0 rfl) ?_
  refine lv_if_eq (tgt := 10) hx hb dX9_manyOf_1 (by decide) (fun c1 => ?_) (fun c1 => ?_)
  · refine lv_iconst (v := 1) hx hb dX9_manyOf_10 (by decide) ?_
    refine lv_goto (tgt := 24) hx hb dX9_manyOf_11 (by decide) ?_
    exact endI hx hb hr hlk hP hK hD hS dX9_manyOf_24 1 rfl ⟨(if_pos c1).trans rfl, rfl⟩
  · refine lv_iload_n hx hb dX9_manyOf_4 rfl (lv_at hl 0 rfl) ?_
    refine lv_bipush (v := 6) hx hb dX9_manyOf_5 (by decide) ?_
    refine lv_icmp_ne (tgt := 14) hx hb dX9_manyOf_7 (by decide) (fun c7 => ?_) (fun c7 => ?_)
    · refine lv_iload_n hx hb dX9_manyOf_14 rfl (lv_at hl 0 rfl) ?_
      refine lv_iconst (v := 4) hx hb dX9_manyOf_15 (by decide) ?_
      refine lv_icmp_ge (tgt := 23) hx hb dX9_manyOf_16 (by decide) (fun c16 => ?_) (fun c16 => ?_)
      · refine lv_iload_n hx hb dX9_manyOf_23 rfl (lv_at hl 0 rfl) ?_
        exact endI hx hb hr hlk hP hK hD hS dX9_manyOf_24 k rfl ⟨(if_neg c1).trans ((if_neg c7).trans ((if_pos c16).trans rfl)), rfl⟩
      · refine lv_iconst (v := 3) hx hb dX9_manyOf_19 (by decide) ?_
        refine lv_goto (tgt := 24) hx hb dX9_manyOf_20 (by decide) ?_
        exact endI hx hb hr hlk hP hK hD hS dX9_manyOf_24 3 rfl ⟨(if_neg c1).trans ((if_neg c7).trans ((if_neg c16).trans rfl)), rfl⟩
    · refine lv_iconst (v := 1) hx hb dX9_manyOf_10 (by decide) ?_
      refine lv_goto (tgt := 24) hx hb dX9_manyOf_11 (by decide) ?_
      exact endI hx hb hr hlk hP hK hD hS dX9_manyOf_24 1 rfl ⟨(if_neg c1).trans ((if_pos c7).trans rfl), rfl⟩

