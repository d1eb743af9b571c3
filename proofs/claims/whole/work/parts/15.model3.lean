/-- the value of X9_interviews, path by path -/
def fX9_interviews (S : Nat → Int32) (who : Int32) (address : Int32) (group : Int32) : (Nat → Int32) :=
  bd1 (74 + (10 * address)) (fun (y_1 : Int32) => bd1 (fX9_of S address 0) (fun (r_3 : Int32) => bd1 (fX9_wanted S r_3 group) (fun (r_5 : Int32) => (if r_5 ≤ 0 then upd (upd S (y_1 + 1).toNatClampNeg 4) (y_1 + 8).toNatClampNeg 0 else upd (upd (upd (upd (upd S (y_1 + 1).toNatClampNeg 1) (y_1 + 8).toNatClampNeg group) ((8 + (3 * ((3 * r_3) + group))) + 1).toNatClampNeg (((upd (upd S (y_1 + 1).toNatClampNeg 1) (y_1 + 8).toNatClampNeg group) ((8 + (3 * ((3 * r_3) + group))) + 1).toNatClampNeg) + 1)) ((44 + (6 * who)) + 4).toNatClampNeg (((upd (upd (upd S (y_1 + 1).toNatClampNeg 1) (y_1 + 8).toNatClampNeg group) ((8 + (3 * ((3 * r_3) + group))) + 1).toNatClampNeg (((upd (upd S (y_1 + 1).toNatClampNeg 1) (y_1 + 8).toNatClampNeg group) ((8 + (3 * ((3 * r_3) + group))) + 1).toNatClampNeg) + 1)) ((44 + (6 * who)) + 4).toNatClampNeg) + 1)) 5 (((upd (upd (upd (upd S (y_1 + 1).toNatClampNeg 1) (y_1 + 8).toNatClampNeg group) ((8 + (3 * ((3 * r_3) + group))) + 1).toNatClampNeg (((upd (upd S (y_1 + 1).toNatClampNeg 1) (y_1 + 8).toNatClampNeg group) ((8 + (3 * ((3 * r_3) + group))) + 1).toNatClampNeg) + 1)) ((44 + (6 * who)) + 4).toNatClampNeg (((upd (upd (upd S (y_1 + 1).toNatClampNeg 1) (y_1 + 8).toNatClampNeg group) ((8 + (3 * ((3 * r_3) + group))) + 1).toNatClampNeg (((upd (upd S (y_1 + 1).toNatClampNeg 1) (y_1 + 8).toNatClampNeg group) ((8 + (3 * ((3 * r_3) + group))) + 1).toNatClampNeg) + 1)) ((44 + (6 * who)) + 4).toNatClampNeg) + 1)) 5) + 1)))))

set_option maxHeartbeats 4000000 in
set_option maxRecDepth 100000 in
/-- X9_interviews -/
theorem mX9_interviews (l : Launch) (D : va_G) (cI cC cS : ClassId) (sz : Nat) (o : Nat) (q1 : Nat) (q2 : Nat) (q3 : Nat) (q4 : Nat) (q5 : Nat) (S : Nat → Int32) (Bg : Nat → Int32) (Pa : Nat → Int32) (Tx : Nat → Int32) (Nu : Nat → Int32) (st : Int32) (ln : Int32) (ps : Int32) (fm : Bool) (rs : Int32) (who : Int32) (address : Int32) (group : Int32) (hfw : vp_in who 5) (hfa : vp_in address 24) (hfg : vp_in group 3) (ho : okS S) : Met l yX9_interviews wsX9_interviews ({ frames := 2, cells := 0, slots := 0, locals := 46 } : Jvm.Room) (va_Pc [.ref o, .int who, .int address, .int group] (wPre D (TY cI cC cS) [(o, .inr (7, [.ref q1, .ref q2, .ref q3, .int st, .ref q4, .int ln, .int ps, .int (bi fm), .int rs, .ref q5])), (q1, .inl (cI, 314, .inl S)), (q2, .inl (cI, 314, .inl Bg)), (q3, .inl (cI, 1256, .inl Pa)), (q4, .inl (cI, 80, .inl Tx)), (q5, .inl (cI, 5, .inl Nu))] sz X0)) (qV D (TY cI cC cS) (fun (u : (Nat → Int32)) => fX9_interviews S who address group = u) (fun u => [(o, .inr (7, [.ref q1, .ref q2, .ref q3, .int st, .ref q4, .int ln, .int ps, .int (bi fm), .int rs, .ref q5])), (q1, .inl (cI, 314, .inl u)), (q2, .inl (cI, 314, .inl Bg)), (q3, .inl (cI, 1256, .inl Pa)), (q4, .inl (cI, 80, .inl Tx)), (q5, .inl (cI, 5, .inl Nu))]) (va_A [(o, .inr (7, [.ref q1, .ref q2, .ref q3, .int st, .ref q4, .int ln, .int ps, .int (bi fm), .int rs, .ref q5])), (q1, .inl (cI, 314, .inl S)), (q2, .inl (cI, 314, .inl Bg)), (q3, .inl (cI, 1256, .inl Pa)), (q4, .inl (cI, 80, .inl Tx)), (q5, .inl (cI, 5, .inl Nu))] sz)) 0 0 (va_A [(o, .inr (7, [.ref q1, .ref q2, .ref q3, .int st, .ref q4, .int ln, .int ps, .int (bi fm), .int rs, .ref q5])), (q1, .inl (cI, 314, .inl S)), (q2, .inl (cI, 314, .inl Bg)), (q3, .inl (cI, 1256, .inl Pa)), (q4, .inl (cI, 80, .inl Tx)), (q5, .inl (cI, 5, .inl Nu))] sz) := by
  refine mkM (fun Fr => qV D (TY cI cC cS) (fun (u : (Nat → Int32)) => fX9_interviews S who address group = u) (fun u => [(o, .inr (7, [.ref q1, .ref q2, .ref q3, .int st, .ref q4, .int ln, .int ps, .int (bi fm), .int rs, .ref q5])), (q1, .inl (cI, 314, .inl u)), (q2, .inl (cI, 314, .inl Bg)), (q3, .inl (cI, 1256, .inl Pa)), (q4, .inl (cI, 80, .inl Tx)), (q5, .inl (cI, 5, .inl Nu))]) Fr) (cc := cX9_interviews) (maxL := 7) (ret := none) (own := RX9) (lv := [(0, .ref o), (1, .int who), (2, .int address), (3, .int group)]) (by decide) rfl rfl (Nat.le_of_ble_eq_true rfl) rfl ?_
  intro p e s m below meth c Fr ls hx hb hr hts hown hml hlk hin hP hK hD hS hA hAe hsz hX hl
  have w_1 := hts (.fieldLink RX9 7 "FieldQuotasModel" "s" "[I") (List.mem_of_getElem? (i := 1) rfl)
  have w_2 := sub_r (big := wsX9_interviews) (u_ws RX9 TX9 10) [15, 16, 17, 18, 19, 20, 21, 22, 23, 24] rfl
  refine lv_bipush (v := 74) hx hb dX9_interviews_0 (by decide) ?_
  refine lv_bipush (v := 10) hx hb dX9_interviews_2 (by decide) ?_
  refine lv_iload_n hx hb dX9_interviews_4 rfl (lv_at hl 2 rfl) ?_
  refine lv_imul hx hb dX9_interviews_5 ?_
  refine lv_iadd hx hb dX9_interviews_6 ?_
  refine lv_topi (fun y_1 ey_1 => ?_)
  refine lv_istore (lv' := [(4, .int y_1), (0, .ref o), (1, .int who), (2, .int address), (3, .int group)]) hx hb dX9_interviews_7 hl (by decide) rfl (fun ls hl => ?_)
  refine lv_aload_n hx hb dX9_interviews_9 rfl (lv_at hl 1 rfl) ?_
  refine lv_iload_n hx hb dX9_interviews_10 rfl (lv_at hl 3 rfl) ?_
  refine lv_iconst (v := 0) hx hb dX9_interviews_11 (by decide) ?_
  refine callVi (As := [.int address, .int 0]) (rest := []) (mX9_of l D cI cC cS _ o q1 q2 q3 q4 q5 S Bg Pa Tx Nu st ln ps fm rs address 0 hfa (vp_d rfl)) ⟨hx, hb, hml, hown, hts⟩ (cwV 2 hts gX9_interviews_X9_of rfl rfl rfl (by decide +kernel) ⟨Nat.le_of_ble_eq_true rfl, Nat.le_of_ble_eq_true rfl⟩) X0_blind (fun _ _ _ => trivial) hP hK hD hS hA hl [0, 1, 2, 3, 4, 5] rfl rfl 0 7 rfl rfl rfl rfl rfl (Nat.le_of_ble_eq_true rfl) dX9_interviews_12 ⟨Nat.zero_le _, Nat.zero_le _⟩ (fun _ => rfl) (fun u_ H locs hk3 hP hD hS => ?_)
  obtain ⟨r_3, e_r_3⟩ : ∃ z, z = u_ := ⟨_, rfl⟩
  subst e_r_3
  have hP : va_P D vwCl [(o, .inr (7, [.ref q1, .ref q2, .ref q3, .int st, .ref q4, .int ln, .int ps, .int (bi fm), .int rs, .ref q5])), (q1, .inl (cI, 314, .inl S)), (q2, .inl (cI, 314, .inl Bg)), (q3, .inl (cI, 1256, .inl Pa)), (q4, .inl (cI, 80, .inl Tx)), (q5, .inl (cI, 5, .inl Nu))] H := hP
  have hD : va_D Fr [(o, .inr (7, [.ref q1, .ref q2, .ref q3, .int st, .ref q4, .int ln, .int ps, .int (bi fm), .int rs, .ref q5])), (q1, .inl (cI, 314, .inl S)), (q2, .inl (cI, 314, .inl Bg)), (q3, .inl (cI, 1256, .inl Pa)), (q4, .inl (cI, 80, .inl Tx)), (q5, .inl (cI, 5, .inl Nu))] := hD
  refine W.eq (g2 := F0 m 15 ls [.int r_3]) rfl ?_
  refine lv_istore (lv' := [(5, .int r_3), (4, .int y_1), (0, .ref o), (1, .int who), (2, .int address), (3, .int group)]) hx hb dX9_interviews_15 hl (by decide) rfl (fun ls hl => ?_)
  refine lv_aload_n hx hb dX9_interviews_17 rfl (lv_at hl 2 rfl) ?_
  refine lv_iload hx hb dX9_interviews_18 (lv_at hl 0 rfl) ?_
  refine lv_iload_n hx hb dX9_interviews_20 rfl (lv_at hl 5 rfl) ?_
  refine callVi (As := [.int r_3, .int group]) (rest := []) (mX9_wanted l D cI cC cS _ o q1 q2 q3 q4 q5 S Bg Pa Tx Nu st ln ps fm rs r_3 group (hk3 ▸ ho.2.2 _ hfa) hfg) ⟨hx, hb, hml, hown, hts⟩ (cwV 2 hts gX9_interviews_X9_wanted rfl rfl rfl (by decide +kernel) ⟨Nat.le_of_ble_eq_true rfl, Nat.le_of_ble_eq_true rfl⟩) X0_blind (fun _ _ _ => trivial) hP hK hD hS hA hl [0, 1, 2, 3, 4, 5] rfl rfl 0 7 rfl rfl rfl rfl rfl (Nat.le_of_ble_eq_true rfl) dX9_interviews_21 ⟨Nat.zero_le _, Nat.zero_le _⟩ (fun _ => rfl) (fun u_ H locs hk5 hP hD hS => ?_)
  obtain ⟨r_5, e_r_5⟩ : ∃ z, z = u_ := ⟨_, rfl⟩
  subst e_r_5
  have hP : va_P D vwCl [(o, .inr (7, [.ref q1, .ref q2, .ref q3, .int st, .ref q4, .int ln, .int ps, .int (bi fm), .int rs, .ref q5])), (q1, .inl (cI, 314, .inl S)), (q2, .inl (cI, 314, .inl Bg)), (q3, .inl (cI, 1256, .inl Pa)), (q4, .inl (cI, 80, .inl Tx)), (q5, .inl (cI, 5, .inl Nu))] H := hP
  have hD : va_D Fr [(o, .inr (7, [.ref q1, .ref q2, .ref q3, .int st, .ref q4, .int ln, .int ps, .int (bi fm), .int rs, .ref q5])), (q1, .inl (cI, 314, .inl S)), (q2, .inl (cI, 314, .inl Bg)), (q3, .inl (cI, 1256, .inl Pa)), (q4, .inl (cI, 80, .inl Tx)), (q5, .inl (cI, 5, .inl Nu))] := hD
  refine W.eq (g2 := F0 m 24 ls [.int r_5]) rfl ?_
  refine lv_if_le (tgt := 31) hx hb dX9_interviews_24 (by decide) (fun c24 => ?_) (fun c24 => ?_)
  · refine lv_iconst (v := 0) hx hb dX9_interviews_31 (by decide) ?_
    refine lv_istore (lv' := [(6, .int 0), (5, .int r_3), (4, .int y_1), (0, .ref o), (1, .int who), (2, .int address), (3, .int group)]) hx hb dX9_interviews_32 hl (by decide) rfl (fun ls hl => ?_)
    refine lv_aload_n hx hb dX9_interviews_34 rfl (lv_at hl 3 rfl) ?_
    refine va_get (D := D) (ci := 7) (C := RX9) (T := TX9) (N := 10) hx hb hts w_2 hown hK hP 0 rfl rfl 0 (by decide) w_1 (fun _ h9 => h9) rfl dX9_interviews_35 ?_
    refine lv_iload hx hb dX9_interviews_38 (lv_at hl 2 rfl) ?_
    refine lv_iconst (v := 1) hx hb dX9_interviews_40 (by decide) ?_
    refine lv_iadd hx hb dX9_interviews_41 ?_
    refine lv_iload hx hb dX9_interviews_42 (lv_at hl 0 rfl) ?_
    refine lv_if_eq (tgt := 51) hx hb dX9_interviews_44 (by decide) (fun _ => ?_) (fun h => absurd (by decide) h)
    refine lv_iconst (v := 4) hx hb dX9_interviews_51 (by decide) ?_
    refine va_iast hx hb hK hP hD hS 1 0 rfl rfl (by rw [ey_1]; exact ix_pl hfa (vp_d rfl)) dX9_interviews_52 (fun H locs hP hD hS => ?_)
    have hP : va_P D vwCl [(o, .inr (7, [.ref q1, .ref q2, .ref q3, .int st, .ref q4, .int ln, .int ps, .int (bi fm), .int rs, .ref q5])), (q1, .inl (cI, 314, .inl (upd S (y_1 + 1).toNatClampNeg 4))), (q2, .inl (cI, 314, .inl Bg)), (q3, .inl (cI, 1256, .inl Pa)), (q4, .inl (cI, 80, .inl Tx)), (q5, .inl (cI, 5, .inl Nu))] H := hP
    have hD : va_D Fr [(o, .inr (7, [.ref q1, .ref q2, .ref q3, .int st, .ref q4, .int ln, .int ps, .int (bi fm), .int rs, .ref q5])), (q1, .inl (cI, 314, .inl (upd S (y_1 + 1).toNatClampNeg 4))), (q2, .inl (cI, 314, .inl Bg)), (q3, .inl (cI, 1256, .inl Pa)), (q4, .inl (cI, 80, .inl Tx)), (q5, .inl (cI, 5, .inl Nu))] := hD
    refine lv_aload_n hx hb dX9_interviews_53 rfl (lv_at hl 3 rfl) ?_
    refine va_get (D := D) (ci := 7) (C := RX9) (T := TX9) (N := 10) hx hb hts w_2 hown hK hP 0 rfl rfl 0 (by decide) w_1 (fun _ h9 => h9) rfl dX9_interviews_54 ?_
    refine lv_iload hx hb dX9_interviews_57 (lv_at hl 2 rfl) ?_
    refine lv_bipush (v := 8) hx hb dX9_interviews_59 (by decide) ?_
    refine lv_iadd hx hb dX9_interviews_61 ?_
    refine lv_iload hx hb dX9_interviews_62 (lv_at hl 0 rfl) ?_
    refine lv_if_eq (tgt := 71) hx hb dX9_interviews_64 (by decide) (fun _ => ?_) (fun h => absurd (by decide) h)
    refine lv_iconst (v := 0) hx hb dX9_interviews_71 (by decide) ?_
    refine va_iast hx hb hK hP hD hS 1 0 rfl rfl (by rw [ey_1]; exact ix_pl hfa (vp_d rfl)) dX9_interviews_72 (fun H locs hP hD hS => ?_)
    have hP : va_P D vwCl [(o, .inr (7, [.ref q1, .ref q2, .ref q3, .int st, .ref q4, .int ln, .int ps, .int (bi fm), .int rs, .ref q5])), (q1, .inl (cI, 314, .inl (upd (upd S (y_1 + 1).toNatClampNeg 4) (y_1 + 8).toNatClampNeg 0))), (q2, .inl (cI, 314, .inl Bg)), (q3, .inl (cI, 1256, .inl Pa)), (q4, .inl (cI, 80, .inl Tx)), (q5, .inl (cI, 5, .inl Nu))] H := hP
    have hD : va_D Fr [(o, .inr (7, [.ref q1, .ref q2, .ref q3, .int st, .ref q4, .int ln, .int ps, .int (bi fm), .int rs, .ref q5])), (q1, .inl (cI, 314, .inl (upd (upd S (y_1 + 1).toNatClampNeg 4) (y_1 + 8).toNatClampNeg 0))), (q2, .inl (cI, 314, .inl Bg)), (q3, .inl (cI, 1256, .inl Pa)), (q4, .inl (cI, 80, .inl Tx)), (q5, .inl (cI, 5, .inl Nu))] := hD
    refine lv_iload hx hb dX9_interviews_73 (lv_at hl 0 rfl) ?_
    refine lv_if_eq (tgt := 128) hx hb dX9_interviews_75 (by decide) (fun _ => ?_) (fun h => absurd (by decide) h)
    exact endV hx hb hr hlk hP hK hD hS dX9_interviews_128 (upd (upd S (y_1 + 1).toNatClampNeg 4) (y_1 + 8).toNatClampNeg 0) rfl ((bd1_n ey_1).trans ((bd1_e hk3).trans ((bd1_e hk5).trans ((if_pos c24).trans rfl))))
  · refine lv_iconst (v := 1) hx hb dX9_interviews_27 (by decide) ?_
    refine lv_goto (tgt := 32) hx hb dX9_interviews_28 (by decide) ?_
    refine lv_istore (lv' := [(6, .int 1), (5, .int r_3), (4, .int y_1), (0, .ref o), (1, .int who), (2, .int address), (3, .int group)]) hx hb dX9_interviews_32 hl (by decide) rfl (fun ls hl => ?_)
    refine lv_aload_n hx hb dX9_interviews_34 rfl (lv_at hl 3 rfl) ?_
    refine va_get (D := D) (ci := 7) (C := RX9) (T := TX9) (N := 10) hx hb hts w_2 hown hK hP 0 rfl rfl 0 (by decide) w_1 (fun _ h9 => h9) rfl dX9_interviews_35 ?_
    refine lv_iload hx hb dX9_interviews_38 (lv_at hl 2 rfl) ?_
    refine lv_iconst (v := 1) hx hb dX9_interviews_40 (by decide) ?_
    refine lv_iadd hx hb dX9_interviews_41 ?_
    refine lv_iload hx hb dX9_interviews_42 (lv_at hl 0 rfl) ?_
    refine lv_if_eq (tgt := 51) hx hb dX9_interviews_44 (by decide) (fun h => absurd h (by decide)) (fun _ => ?_)
    refine lv_iconst (v := 1) hx hb dX9_interviews_47 (by decide) ?_
    refine lv_goto (tgt := 52) hx hb dX9_interviews_48 (by decide) ?_
    refine va_iast hx hb hK hP hD hS 1 0 rfl rfl (by rw [ey_1]; exact ix_pl hfa (vp_d rfl)) dX9_interviews_52 (fun H locs hP hD hS => ?_)
    have hP : va_P D vwCl [(o, .inr (7, [.ref q1, .ref q2, .ref q3, .int st, .ref q4, .int ln, .int ps, .int (bi fm), .int rs, .ref q5])), (q1, .inl (cI, 314, .inl (upd S (y_1 + 1).toNatClampNeg 1))), (q2, .inl (cI, 314, .inl Bg)), (q3, .inl (cI, 1256, .inl Pa)), (q4, .inl (cI, 80, .inl Tx)), (q5, .inl (cI, 5, .inl Nu))] H := hP
    have hD : va_D Fr [(o, .inr (7, [.ref q1, .ref q2, .ref q3, .int st, .ref q4, .int ln, .int ps, .int (bi fm), .int rs, .ref q5])), (q1, .inl (cI, 314, .inl (upd S (y_1 + 1).toNatClampNeg 1))), (q2, .inl (cI, 314, .inl Bg)), (q3, .inl (cI, 1256, .inl Pa)), (q4, .inl (cI, 80, .inl Tx)), (q5, .inl (cI, 5, .inl Nu))] := hD
    refine lv_aload_n hx hb dX9_interviews_53 rfl (lv_at hl 3 rfl) ?_
    refine va_get (D := D) (ci := 7) (C := RX9) (T := TX9) (N := 10) hx hb hts w_2 hown hK hP 0 rfl rfl 0 (by decide) w_1 (fun _ h9 => h9) rfl dX9_interviews_54 ?_
    refine lv_iload hx hb dX9_interviews_57 (lv_at hl 2 rfl) ?_
    refine lv_bipush (v := 8) hx hb dX9_interviews_59 (by decide) ?_
    refine lv_iadd hx hb dX9_interviews_61 ?_
    refine lv_iload hx hb dX9_interviews_62 (lv_at hl 0 rfl) ?_
    refine lv_if_eq (tgt := 71) hx hb dX9_interviews_64 (by decide) (fun h => absurd h (by decide)) (fun _ => ?_)
    refine lv_iload_n hx hb dX9_interviews_67 rfl (lv_at hl 6 rfl) ?_
    refine lv_goto (tgt := 72) hx hb dX9_interviews_68 (by decide) ?_
    refine va_iast hx hb hK hP hD hS 1 0 rfl rfl (by rw [ey_1]; exact ix_pl hfa (vp_d rfl)) dX9_interviews_72 (fun H locs hP hD hS => ?_)
    have hP : va_P D vwCl [(o, .inr (7, [.ref q1, .ref q2, .ref q3, .int st, .ref q4, .int ln, .int ps, .int (bi fm), .int rs, .ref q5])), (q1, .inl (cI, 314, .inl (upd (upd S (y_1 + 1).toNatClampNeg 1) (y_1 + 8).toNatClampNeg group))), (q2, .inl (cI, 314, .inl Bg)), (q3, .inl (cI, 1256, .inl Pa)), (q4, .inl (cI, 80, .inl Tx)), (q5, .inl (cI, 5, .inl Nu))] H := hP
    have hD : va_D Fr [(o, .inr (7, [.ref q1, .ref q2, .ref q3, .int st, .ref q4, .int ln, .int ps, .int (bi fm), .int rs, .ref q5])), (q1, .inl (cI, 314, .inl (upd (upd S (y_1 + 1).toNatClampNeg 1) (y_1 + 8).toNatClampNeg group))), (q2, .inl (cI, 314, .inl Bg)), (q3, .inl (cI, 1256, .inl Pa)), (q4, .inl (cI, 80, .inl Tx)), (q5, .inl (cI, 5, .inl Nu))] := hD
    refine lv_iload hx hb dX9_interviews_73 (lv_at hl 0 rfl) ?_
    refine lv_if_eq (tgt := 128) hx hb dX9_interviews_75 (by decide) (fun h => absurd h (by decide)) (fun _ => ?_)
    refine lv_aload_n hx hb dX9_interviews_78 rfl (lv_at hl 3 rfl) ?_
    refine va_get (D := D) (ci := 7) (C := RX9) (T := TX9) (N := 10) hx hb hts w_2 hown hK hP 0 rfl rfl 0 (by decide) w_1 (fun _ h9 => h9) rfl dX9_interviews_79 ?_
    refine lv_bipush (v := 8) hx hb dX9_interviews_82 (by decide) ?_
    refine lv_iconst (v := 3) hx hb dX9_interviews_84 (by decide) ?_
    refine lv_iconst (v := 3) hx hb dX9_interviews_85 (by decide) ?_
    refine lv_iload hx hb dX9_interviews_86 (lv_at hl 1 rfl) ?_
    refine lv_imul hx hb dX9_interviews_88 ?_
    refine lv_iload_n hx hb dX9_interviews_89 rfl (lv_at hl 6 rfl) ?_
    refine lv_iadd hx hb dX9_interviews_90 ?_
    refine lv_imul hx hb dX9_interviews_91 ?_
    refine lv_iadd hx hb dX9_interviews_92 ?_
    refine lv_iconst (v := 1) hx hb dX9_interviews_93 (by decide) ?_
    refine lv_iadd hx hb dX9_interviews_94 ?_
    refine lv_dup2_11 hx hb dX9_interviews_95 rfl rfl ?_
    refine va_iald hx hb hK hP 1 0 rfl rfl (ix_ce (hk3 ▸ ho.2.2 _ hfa) hfg (vp_d rfl)) dX9_interviews_96 ?_
    refine lv_iconst (v := 1) hx hb dX9_interviews_97 (by decide) ?_
    refine lv_iadd hx hb dX9_interviews_98 ?_
    refine va_iast hx hb hK hP hD hS 1 0 rfl rfl (ix_ce (hk3 ▸ ho.2.2 _ hfa) hfg (vp_d rfl)) dX9_interviews_99 (fun H locs hP hD hS => ?_)
    have hP : va_P D vwCl [(o, .inr (7, [.ref q1, .ref q2, .ref q3, .int st, .ref q4, .int ln, .int ps, .int (bi fm), .int rs, .ref q5])), (q1, .inl (cI, 314, .inl (upd (upd (upd S (y_1 + 1).toNatClampNeg 1) (y_1 + 8).toNatClampNeg group) ((8 + (3 * ((3 * r_3) + group))) + 1).toNatClampNeg (((upd (upd S (y_1 + 1).toNatClampNeg 1) (y_1 + 8).toNatClampNeg group) ((8 + (3 * ((3 * r_3) + group))) + 1).toNatClampNeg) + 1)))), (q2, .inl (cI, 314, .inl Bg)), (q3, .inl (cI, 1256, .inl Pa)), (q4, .inl (cI, 80, .inl Tx)), (q5, .inl (cI, 5, .inl Nu))] H := hP
    have hD : va_D Fr [(o, .inr (7, [.ref q1, .ref q2, .ref q3, .int st, .ref q4, .int ln, .int ps, .int (bi fm), .int rs, .ref q5])), (q1, .inl (cI, 314, .inl (upd (upd (upd S (y_1 + 1).toNatClampNeg 1) (y_1 + 8).toNatClampNeg group) ((8 + (3 * ((3 * r_3) + group))) + 1).toNatClampNeg (((upd (upd S (y_1 + 1).toNatClampNeg 1) (y_1 + 8).toNatClampNeg group) ((8 + (3 * ((3 * r_3) + group))) + 1).toNatClampNeg) + 1)))), (q2, .inl (cI, 314, .inl Bg)), (q3, .inl (cI, 1256, .inl Pa)), (q4, .inl (cI, 80, .inl Tx)), (q5, .inl (cI, 5, .inl Nu))] := hD
    refine lv_aload_n hx hb dX9_interviews_100 rfl (lv_at hl 3 rfl) ?_
    refine va_get (D := D) (ci := 7) (C := RX9) (T := TX9) (N := 10) hx hb hts w_2 hown hK hP 0 rfl rfl 0 (by decide) w_1 (fun _ h9 => h9) rfl dX9_interviews_101 ?_
    refine lv_bipush (v := 44) hx hb dX9_interviews_104 (by decide) ?_
    refine lv_bipush (v := 6) hx hb dX9_interviews_106 (by decide) ?_
    refine lv_iload_n hx hb dX9_interviews_108 rfl (lv_at hl 4 rfl) ?_
    refine lv_imul hx hb dX9_interviews_109 ?_
    refine lv_iadd hx hb dX9_interviews_110 ?_
    refine lv_iconst (v := 4) hx hb dX9_interviews_111 (by decide) ?_
    refine lv_iadd hx hb dX9_interviews_112 ?_
    refine lv_dup2_11 hx hb dX9_interviews_113 rfl rfl ?_
    refine va_iald hx hb hK hP 1 0 rfl rfl (ix_wh hfw (vp_d rfl)) dX9_interviews_114 ?_
    refine lv_iconst (v := 1) hx hb dX9_interviews_115 (by decide) ?_
    refine lv_iadd hx hb dX9_interviews_116 ?_
    refine va_iast hx hb hK hP hD hS 1 0 rfl rfl (ix_wh hfw (vp_d rfl)) dX9_interviews_117 (fun H locs hP hD hS => ?_)
    have hP : va_P D vwCl [(o, .inr (7, [.ref q1, .ref q2, .ref q3, .int st, .ref q4, .int ln, .int ps, .int (bi fm), .int rs, .ref q5])), (q1, .inl (cI, 314, .inl (upd (upd (upd (upd S (y_1 + 1).toNatClampNeg 1) (y_1 + 8).toNatClampNeg group) ((8 + (3 * ((3 * r_3) + group))) + 1).toNatClampNeg (((upd (upd S (y_1 + 1).toNatClampNeg 1) (y_1 + 8).toNatClampNeg group) ((8 + (3 * ((3 * r_3) + group))) + 1).toNatClampNeg) + 1)) ((44 + (6 * who)) + 4).toNatClampNeg (((upd (upd (upd S (y_1 + 1).toNatClampNeg 1) (y_1 + 8).toNatClampNeg group) ((8 + (3 * ((3 * r_3) + group))) + 1).toNatClampNeg (((upd (upd S (y_1 + 1).toNatClampNeg 1) (y_1 + 8).toNatClampNeg group) ((8 + (3 * ((3 * r_3) + group))) + 1).toNatClampNeg) + 1)) ((44 + (6 * who)) + 4).toNatClampNeg) + 1)))), (q2, .inl (cI, 314, .inl Bg)), (q3, .inl (cI, 1256, .inl Pa)), (q4, .inl (cI, 80, .inl Tx)), (q5, .inl (cI, 5, .inl Nu))] H := hP
    have hD : va_D Fr [(o, .inr (7, [.ref q1, .ref q2, .ref q3, .int st, .ref q4, .int ln, .int ps, .int (bi fm), .int rs, .ref q5])), (q1, .inl (cI, 314, .inl (upd (upd (upd (upd S (y_1 + 1).toNatClampNeg 1) (y_1 + 8).toNatClampNeg group) ((8 + (3 * ((3 * r_3) + group))) + 1).toNatClampNeg (((upd (upd S (y_1 + 1).toNatClampNeg 1) (y_1 + 8).toNatClampNeg group) ((8 + (3 * ((3 * r_3) + group))) + 1).toNatClampNeg) + 1)) ((44 + (6 * who)) + 4).toNatClampNeg (((upd (upd (upd S (y_1 + 1).toNatClampNeg 1) (y_1 + 8).toNatClampNeg group) ((8 + (3 * ((3 * r_3) + group))) + 1).toNatClampNeg (((upd (upd S (y_1 + 1).toNatClampNeg 1) (y_1 + 8).toNatClampNeg group) ((8 + (3 * ((3 * r_3) + group))) + 1).toNatClampNeg) + 1)) ((44 + (6 * who)) + 4).toNatClampNeg) + 1)))), (q2, .inl (cI, 314, .inl Bg)), (q3, .inl (cI, 1256, .inl Pa)), (q4, .inl (cI, 80, .inl Tx)), (q5, .inl (cI, 5, .inl Nu))] := hD
    refine lv_aload_n hx hb dX9_interviews_118 rfl (lv_at hl 3 rfl) ?_
    refine va_get (D := D) (ci := 7) (C := RX9) (T := TX9) (N := 10) hx hb hts w_2 hown hK hP 0 rfl rfl 0 (by decide) w_1 (fun _ h9 => h9) rfl dX9_interviews_119 ?_
    refine lv_iconst (v := 5) hx hb dX9_interviews_122 (by decide) ?_
    refine lv_dup2_11 hx hb dX9_interviews_123 rfl rfl ?_
    refine va_iald hx hb hK hP 1 0 rfl rfl (vp_d rfl) dX9_interviews_124 ?_
    refine W.eq (g2 := F0 m 125 ls [.int ((upd (upd (upd (upd S (y_1 + 1).toNatClampNeg 1) (y_1 + 8).toNatClampNeg group) ((8 + (3 * ((3 * r_3) + group))) + 1).toNatClampNeg (((upd (upd S (y_1 + 1).toNatClampNeg 1) (y_1 + 8).toNatClampNeg group) ((8 + (3 * ((3 * r_3) + group))) + 1).toNatClampNeg) + 1)) ((44 + (6 * who)) + 4).toNatClampNeg (((upd (upd (upd S (y_1 + 1).toNatClampNeg 1) (y_1 + 8).toNatClampNeg group) ((8 + (3 * ((3 * r_3) + group))) + 1).toNatClampNeg (((upd (upd S (y_1 + 1).toNatClampNeg 1) (y_1 + 8).toNatClampNeg group) ((8 + (3 * ((3 * r_3) + group))) + 1).toNatClampNeg) + 1)) ((44 + (6 * who)) + 4).toNatClampNeg) + 1)) 5), .int 5, .ref q1]) rfl ?_
    refine lv_iconst (v := 1) hx hb dX9_interviews_125 (by decide) ?_
    refine lv_iadd hx hb dX9_interviews_126 ?_
    refine va_iast hx hb hK hP hD hS 1 0 rfl rfl (vp_d rfl) dX9_interviews_127 (fun H locs hP hD hS => ?_)
    have hP : va_P D vwCl [(o, .inr (7, [.ref q1, .ref q2, .ref q3, .int st, .ref q4, .int ln, .int ps, .int (bi fm), .int rs, .ref q5])), (q1, .inl (cI, 314, .inl (upd (upd (upd (upd (upd S (y_1 + 1).toNatClampNeg 1) (y_1 + 8).toNatClampNeg group) ((8 + (3 * ((3 * r_3) + group))) + 1).toNatClampNeg (((upd (upd S (y_1 + 1).toNatClampNeg 1) (y_1 + 8).toNatClampNeg group) ((8 + (3 * ((3 * r_3) + group))) + 1).toNatClampNeg) + 1)) ((44 + (6 * who)) + 4).toNatClampNeg (((upd (upd (upd S (y_1 + 1).toNatClampNeg 1) (y_1 + 8).toNatClampNeg group) ((8 + (3 * ((3 * r_3) + group))) + 1).toNatClampNeg (((upd (upd S (y_1 + 1).toNatClampNeg 1) (y_1 + 8).toNatClampNeg group) ((8 + (3 * ((3 * r_3) + group))) + 1).toNatClampNeg) + 1)) ((44 + (6 * who)) + 4).toNatClampNeg) + 1)) 5 (((upd (upd (upd (upd S (y_1 + 1).toNatClampNeg 1) (y_1 + 8).toNatClampNeg group) ((8 + (3 * ((3 * r_3) + group))) + 1).toNatClampNeg (((upd (upd S (y_1 + 1).toNatClampNeg 1) (y_1 + 8).toNatClampNeg group) ((8 + (3 * ((3 * r_3) + group))) + 1).toNatClampNeg) + 1)) ((44 + (6 * who)) + 4).toNatClampNeg (((upd (upd (upd S (y_1 + 1).toNatClampNeg 1) (y_1 + 8).toNatClampNeg group) ((8 + (3 * ((3 * r_3) + group))) + 1).toNatClampNeg (((upd (upd S (y_1 + 1).toNatClampNeg 1) (y_1 + 8).toNatClampNeg group) ((8 + (3 * ((3 * r_3) + group))) + 1).toNatClampNeg) + 1)) ((44 + (6 * who)) + 4).toNatClampNeg) + 1)) 5) + 1)))), (q2, .inl (cI, 314, .inl Bg)), (q3, .inl (cI, 1256, .inl Pa)), (q4, .inl (cI, 80, .inl Tx)), (q5, .inl (cI, 5, .inl Nu))] H := hP
    have hD : va_D Fr [(o, .inr (7, [.ref q1, .ref q2, .ref q3, .int st, .ref q4, .int ln, .int ps, .int (bi fm), .int rs, .ref q5])), (q1, .inl (cI, 314, .inl (upd (upd (upd (upd (upd S (y_1 + 1).toNatClampNeg 1) (y_1 + 8).toNatClampNeg group) ((8 + (3 * ((3 * r_3) + group))) + 1).toNatClampNeg (((upd (upd S (y_1 + 1).toNatClampNeg 1) (y_1 + 8).toNatClampNeg group) ((8 + (3 * ((3 * r_3) + group))) + 1).toNatClampNeg) + 1)) ((44 + (6 * who)) + 4).toNatClampNeg (((upd (upd (upd S (y_1 + 1).toNatClampNeg 1) (y_1 + 8).toNatClampNeg group) ((8 + (3 * ((3 * r_3) + group))) + 1).toNatClampNeg (((upd (upd S (y_1 + 1).toNatClampNeg 1) (y_1 + 8).toNatClampNeg group) ((8 + (3 * ((3 * r_3) + group))) + 1).toNatClampNeg) + 1)) ((44 + (6 * who)) + 4).toNatClampNeg) + 1)) 5 (((upd (upd (upd (upd S (y_1 + 1).toNatClampNeg 1) (y_1 + 8).toNatClampNeg group) ((8 + (3 * ((3 * r_3) + group))) + 1).toNatClampNeg (((upd (upd S (y_1 + 1).toNatClampNeg 1) (y_1 + 8).toNatClampNeg group) ((8 + (3 * ((3 * r_3) + group))) + 1).toNatClampNeg) + 1)) ((44 + (6 * who)) + 4).toNatClampNeg (((upd (upd (upd S (y_1 + 1).toNatClampNeg 1) (y_1 + 8).toNatClampNeg group) ((8 + (3 * ((3 * r_3) + group))) + 1).toNatClampNeg (((upd (upd S (y_1 + 1).toNatClampNeg 1) (y_1 + 8).toNatClampNeg group) ((8 + (3 * ((3 * r_3) + group))) + 1).toNatClampNeg) + 1)) ((44 + (6 * who)) + 4).toNatClampNeg) + 1)) 5) + 1)))), (q2, .inl (cI, 314, .inl Bg)), (q3, .inl (cI, 1256, .inl Pa)), (q4, .inl (cI, 80, .inl Tx)), (q5, .inl (cI, 5, .inl Nu))] := hD
    exact endV hx hb hr hlk hP hK hD hS dX9_interviews_128 (upd (upd (upd (upd (upd S (y_1 + 1).toNatClampNeg 1) (y_1 + 8).toNatClampNeg group) ((8 + (3 * ((3 * r_3) + group))) + 1).toNatClampNeg (((upd (upd S (y_1 + 1).toNatClampNeg 1) (y_1 + 8).toNatClampNeg group) ((8 + (3 * ((3 * r_3) + group))) + 1).toNatClampNeg) + 1)) ((44 + (6 * who)) + 4).toNatClampNeg (((upd (upd (upd S (y_1 + 1).toNatClampNeg 1) (y_1 + 8).toNatClampNeg group) ((8 + (3 * ((3 * r_3) + group))) + 1).toNatClampNeg (((upd (upd S (y_1 + 1).toNatClampNeg 1) (y_1 + 8).toNatClampNeg group) ((8 + (3 * ((3 * r_3) + group))) + 1).toNatClampNeg) + 1)) ((44 + (6 * who)) + 4).toNatClampNeg) + 1)) 5 (((upd (upd (upd (upd S (y_1 + 1).toNatClampNeg 1) (y_1 + 8).toNatClampNeg group) ((8 + (3 * ((3 * r_3) + group))) + 1).toNatClampNeg (((upd (upd S (y_1 + 1).toNatClampNeg 1) (y_1 + 8).toNatClampNeg group) ((8 + (3 * ((3 * r_3) + group))) + 1).toNatClampNeg) + 1)) ((44 + (6 * who)) + 4).toNatClampNeg (((upd (upd (upd S (y_1 + 1).toNatClampNeg 1) (y_1 + 8).toNatClampNeg group) ((8 + (3 * ((3 * r_3) + group))) + 1).toNatClampNeg (((upd (upd S (y_1 + 1).toNatClampNeg 1) (y_1 + 8).toNatClampNeg group) ((8 + (3 * ((3 * r_3) + group))) + 1).toNatClampNeg) + 1)) ((44 + (6 * who)) + 4).toNatClampNeg) + 1)) 5) + 1)) rfl ((bd1_n ey_1).trans ((bd1_e hk3).trans ((bd1_e hk5).trans ((if_neg c24).trans rfl))))


/-- the value of X9_calls, path by path -/
def fX9_calls (S : Nat → Int32) (who : Int32) (address : Int32) (time : Int32) (what : Int32) : Int32 × (Nat → Int32) :=
  bd1 (fX9_isAsked S who address time) (fun (r_2 : Bool) => (if r_2 = true then bd1 (fX9_in what 0 4) (fun (r_4 : Bool) => (if r_4 = true then bd1 (fX9_mayCall S who address time) (fun (r_6 : Bool) => (if r_6 = true then bd1 (74 + (10 * address)) (fun (y_7 : Int32) => bd1 (fX9_counts S who address time) (fun (u_10 : Nat → Int32) => (if what = 0 then (if (upd (upd u_10 (y_7 + 3).toNatClampNeg ((u_10 (y_7 + 3).toNatClampNeg) + 1)) 4 (((upd u_10 (y_7 + 3).toNatClampNeg ((u_10 (y_7 + 3).toNatClampNeg) + 1)) 4) + 1)) (y_7 + 3).toNatClampNeg < (upd (upd u_10 (y_7 + 3).toNatClampNeg ((u_10 (y_7 + 3).toNatClampNeg) + 1)) 4 (((upd u_10 (y_7 + 3).toNatClampNeg ((u_10 (y_7 + 3).toNatClampNeg) + 1)) 4) + 1)) 6 then ((upd (upd (upd u_10 (y_7 + 3).toNatClampNeg ((u_10 (y_7 + 3).toNatClampNeg) + 1)) 4 (((upd u_10 (y_7 + 3).toNatClampNeg ((u_10 (y_7 + 3).toNatClampNeg) + 1)) 4) + 1)) (y_7 + 1).toNatClampNeg 0) (y_7 + 1).toNatClampNeg, upd (upd (upd u_10 (y_7 + 3).toNatClampNeg ((u_10 (y_7 + 3).toNatClampNeg) + 1)) 4 (((upd u_10 (y_7 + 3).toNatClampNeg ((u_10 (y_7 + 3).toNatClampNeg) + 1)) 4) + 1)) (y_7 + 1).toNatClampNeg 0) else ((upd (upd (upd u_10 (y_7 + 3).toNatClampNeg ((u_10 (y_7 + 3).toNatClampNeg) + 1)) 4 (((upd u_10 (y_7 + 3).toNatClampNeg ((u_10 (y_7 + 3).toNatClampNeg) + 1)) 4) + 1)) (y_7 + 1).toNatClampNeg 3) (y_7 + 1).toNatClampNeg, upd (upd (upd u_10 (y_7 + 3).toNatClampNeg ((u_10 (y_7 + 3).toNatClampNeg) + 1)) 4 (((upd u_10 (y_7 + 3).toNatClampNeg ((u_10 (y_7 + 3).toNatClampNeg) + 1)) 4) + 1)) (y_7 + 1).toNatClampNeg 3)) else (if what = 1 then ((upd u_10 (y_7 + 1).toNatClampNeg 2) (y_7 + 1).toNatClampNeg, upd u_10 (y_7 + 1).toNatClampNeg 2) else bd1 (fX9_interviews u_10 who address (what - 2)) (fun (u_13 : Nat → Int32) => (u_13 (y_7 + 1).toNatClampNeg, u_13)))))) else ((-2), S))) else ((-1), S))) else ((-1), S)))

set_option maxHeartbeats 4000000 in
set_option maxRecDepth 100000 in
/-- X9_calls -/
theorem mX9_calls (l : Launch) (D : va_G) (cI cC cS : ClassId) (sz : Nat) (o : Nat) (q1 : Nat) (q2 : Nat) (q3 : Nat) (q4 : Nat) (q5 : Nat) (S : Nat → Int32) (Bg : Nat → Int32) (Pa : Nat → Int32) (Tx : Nat → Int32) (Nu : Nat → Int32) (st : Int32) (ln : Int32) (ps : Int32) (fm : Bool) (rs : Int32) (who : Int32) (address : Int32) (time : Int32) (what : Int32) (ho : okS S) : Met l yX9_calls wsX9_calls ({ frames := 5, cells := 0, slots := 0, locals := 108 } : Jvm.Room) (va_Pc [.ref o, .int who, .int address, .int time, .int what] (wPre D (TY cI cC cS) [(o, .inr (7, [.ref q1, .ref q2, .ref q3, .int st, .ref q4, .int ln, .int ps, .int (bi fm), .int rs, .ref q5])), (q1, .inl (cI, 314, .inl S)), (q2, .inl (cI, 314, .inl Bg)), (q3, .inl (cI, 1256, .inl Pa)), (q4, .inl (cI, 80, .inl Tx)), (q5, .inl (cI, 5, .inl Nu))] sz X0)) (qI D (TY cI cC cS) (fun (r : Int32) (u : Int32 × (Nat → Int32)) => fX9_calls S who address time what = u ∧ r = u.1) (fun u => [(o, .inr (7, [.ref q1, .ref q2, .ref q3, .int st, .ref q4, .int ln, .int ps, .int (bi fm), .int rs, .ref q5])), (q1, .inl (cI, 314, .inl u.2)), (q2, .inl (cI, 314, .inl Bg)), (q3, .inl (cI, 1256, .inl Pa)), (q4, .inl (cI, 80, .inl Tx)), (q5, .inl (cI, 5, .inl Nu))]) (va_A [(o, .inr (7, [.ref q1, .ref q2, .ref q3, .int st, .ref q4, .int ln, .int ps, .int (bi fm), .int rs, .ref q5])), (q1, .inl (cI, 314, .inl S)), (q2, .inl (cI, 314, .inl Bg)), (q3, .inl (cI, 1256, .inl Pa)), (q4, .inl (cI, 80, .inl Tx)), (q5, .inl (cI, 5, .inl Nu))] sz)) 0 0 (va_A [(o, .inr (7, [.ref q1, .ref q2, .ref q3, .int st, .ref q4, .int ln, .int ps, .int (bi fm), .int rs, .ref q5])), (q1, .inl (cI, 314, .inl S)), (q2, .inl (cI, 314, .inl Bg)), (q3, .inl (cI, 1256, .inl Pa)), (q4, .inl (cI, 80, .inl Tx)), (q5, .inl (cI, 5, .inl Nu))] sz) := by
  refine mkM (fun Fr => qI D (TY cI cC cS) (fun (r : Int32) (u : Int32 × (Nat → Int32)) => fX9_calls S who address time what = u ∧ r = u.1) (fun u => [(o, .inr (7, [.ref q1, .ref q2, .ref q3, .int st, .ref q4, .int ln, .int ps, .int (bi fm), .int rs, .ref q5])), (q1, .inl (cI, 314, .inl u.2)), (q2, .inl (cI, 314, .inl Bg)), (q3, .inl (cI, 1256, .inl Pa)), (q4, .inl (cI, 80, .inl Tx)), (q5, .inl (cI, 5, .inl Nu))]) Fr) (cc := cX9_calls) (maxL := 6) (ret := (some .int)) (own := RX9) (lv := [(0, .ref o), (1, .int who), (2, .int address), (3, .int time), (4, .int what)]) (by decide) rfl rfl (Nat.le_of_ble_eq_true rfl) rfl ?_
  intro p e s m below meth c Fr ls hx hb hr hts hown hml hlk hin hP hK hD hS hA hAe hsz hX hl
  have w_1 := hts (.fieldLink RX9 7 "FieldQuotasModel" "s" "[I") (List.mem_of_getElem? (i := 1) rfl)
  have w_2 := sub_r (big := wsX9_calls) (u_ws RX9 TX9 10) [58, 59, 60, 61, 62, 63, 64, 65, 66, 67] rfl
  refine lv_aload_n hx hb dX9_calls_0 rfl (lv_at hl 0 rfl) ?_
  refine lv_iload_n hx hb dX9_calls_1 rfl (lv_at hl 1 rfl) ?_
  refine lv_iload_n hx hb dX9_calls_2 rfl (lv_at hl 2 rfl) ?_
  refine lv_iload_n hx hb dX9_calls_3 rfl (lv_at hl 3 rfl) ?_
  refine callVi (As := [.int who, .int address, .int time]) (rest := []) (mX9_isAsked l D cI cC cS _ o q1 q2 q3 q4 q5 S Bg Pa Tx Nu st ln ps fm rs who address time) ⟨hx, hb, hml, hown, hts⟩ (cwV 3 hts gX9_calls_X9_isAsked rfl rfl rfl (by decide +kernel) ⟨Nat.le_of_ble_eq_true rfl, Nat.le_of_ble_eq_true rfl⟩) X0_blind (fun _ _ _ => trivial) hP hK hD hS hA hl [0, 1, 2, 3, 4, 5] rfl rfl 0 7 rfl rfl rfl rfl rfl (Nat.le_of_ble_eq_true rfl) dX9_calls_4 ⟨Nat.zero_le _, Nat.zero_le _⟩ (fun _ => rfl) (fun u_ H locs hk2 hP hD hS => ?_)
  obtain ⟨r_2, e_r_2⟩ : ∃ z, z = u_ := ⟨_, rfl⟩
  subst e_r_2
  have hP : va_P D vwCl [(o, .inr (7, [.ref q1, .ref q2, .ref q3, .int st, .ref q4, .int ln, .int ps, .int (bi fm), .int rs, .ref q5])), (q1, .inl (cI, 314, .inl S)), (q2, .inl (cI, 314, .inl Bg)), (q3, .inl (cI, 1256, .inl Pa)), (q4, .inl (cI, 80, .inl Tx)), (q5, .inl (cI, 5, .inl Nu))] H := hP
  have hD : va_D Fr [(o, .inr (7, [.ref q1, .ref q2, .ref q3, .int st, .ref q4, .int ln, .int ps, .int (bi fm), .int rs, .ref q5])), (q1, .inl (cI, 314, .inl S)), (q2, .inl (cI, 314, .inl Bg)), (q3, .inl (cI, 1256, .inl Pa)), (q4, .inl (cI, 80, .inl Tx)), (q5, .inl (cI, 5, .inl Nu))] := hD
  refine W.eq (g2 := F0 m 7 ls [.int (bi r_2)]) rfl ?_
  refine lv_if_eq (tgt := 20) hx hb dX9_calls_7 (by decide) (fun c7 => ?_) (fun c7 => ?_)
  · refine lv_iconst (v := (-1)) hx hb dX9_calls_20 (by decide) ?_
    exact endI hx hb hr hlk hP hK hD hS dX9_calls_21 ((-1), S) rfl ⟨(bd1_e hk2).trans ((if_neg (bi_z c7)).trans rfl), rfl⟩
  · refine lv_iload hx hb dX9_calls_10 (lv_at hl 4 rfl) ?_
    refine lv_iconst (v := 0) hx hb dX9_calls_12 (by decide) ?_
    refine lv_iconst (v := 4) hx hb dX9_calls_13 (by decide) ?_
    refine callSi (As := [.int what, .int 0, .int 4]) (rest := []) (mX9_in l D cI cC cS _ what 0 4) ⟨hx, hb, hml, hown, hts⟩ (va_cwS 3 hts gX9_calls_X9_in rfl rfl rfl (by decide +kernel) ⟨Nat.le_of_ble_eq_true rfl, Nat.le_of_ble_eq_true rfl⟩) hP hK hD hS hA hl rfl rfl (Nat.le_of_ble_eq_true rfl) dX9_calls_14 ⟨Nat.zero_le _, Nat.zero_le _⟩ (fun u_ H locs hk4 hP hS => ?_)
    obtain ⟨r_4, e_r_4⟩ : ∃ z, z = u_ := ⟨_, rfl⟩
    subst e_r_4
    refine W.eq (g2 := F0 m 17 ls [.int (bi r_4)]) rfl ?_
    refine lv_if_ne (tgt := 22) hx hb dX9_calls_17 (by decide) (fun c17 => ?_) (fun c17 => ?_)
    · refine lv_aload_n hx hb dX9_calls_22 rfl (lv_at hl 0 rfl) ?_
      refine lv_iload_n hx hb dX9_calls_23 rfl (lv_at hl 1 rfl) ?_
      refine lv_iload_n hx hb dX9_calls_24 rfl (lv_at hl 2 rfl) ?_
      refine lv_iload_n hx hb dX9_calls_25 rfl (lv_at hl 3 rfl) ?_
      refine callVi (As := [.int who, .int address, .int time]) (rest := []) (mX9_mayCall l D cI cC cS _ o q1 q2 q3 q4 q5 S Bg Pa Tx Nu st ln ps fm rs who address time ((as_of (hk2.trans (bi_o c7)) ho.1 ho.2.1).1) ((as_of (hk2.trans (bi_o c7)) ho.1 ho.2.1).2)) ⟨hx, hb, hml, hown, hts⟩ (cwV 3 hts gX9_calls_X9_mayCall rfl rfl rfl (by decide +kernel) ⟨Nat.le_of_ble_eq_true rfl, Nat.le_of_ble_eq_true rfl⟩) X0_blind (fun _ _ _ => trivial) hP hK hD hS hA hl [0, 1, 2, 3, 4, 5] rfl rfl 0 7 rfl rfl rfl rfl rfl (Nat.le_of_ble_eq_true rfl) dX9_calls_26 ⟨Nat.zero_le _, Nat.zero_le _⟩ (fun _ => rfl) (fun u_ H locs hk6 hP hD hS => ?_)
      obtain ⟨r_6, e_r_6⟩ : ∃ z, z = u_ := ⟨_, rfl⟩
      subst e_r_6
      have hP : va_P D vwCl [(o, .inr (7, [.ref q1, .ref q2, .ref q3, .int st, .ref q4, .int ln, .int ps, .int (bi fm), .int rs, .ref q5])), (q1, .inl (cI, 314, .inl S)), (q2, .inl (cI, 314, .inl Bg)), (q3, .inl (cI, 1256, .inl Pa)), (q4, .inl (cI, 80, .inl Tx)), (q5, .inl (cI, 5, .inl Nu))] H := hP
      have hD : va_D Fr [(o, .inr (7, [.ref q1, .ref q2, .ref q3, .int st, .ref q4, .int ln, .int ps, .int (bi fm), .int rs, .ref q5])), (q1, .inl (cI, 314, .inl S)), (q2, .inl (cI, 314, .inl Bg)), (q3, .inl (cI, 1256, .inl Pa)), (q4, .inl (cI, 80, .inl Tx)), (q5, .inl (cI, 5, .inl Nu))] := hD
      refine W.eq (g2 := F0 m 29 ls [.int (bi r_6)]) rfl ?_
      refine lv_if_ne (tgt := 35) hx hb dX9_calls_29 (by decide) (fun c29 => ?_) (fun c29 => ?_)
      · refine lv_bipush (v := 74) hx hb dX9_calls_35 (by decide) ?_
        refine lv_bipush (v := 10) hx hb dX9_calls_37 (by decide) ?_
        refine lv_iload_n hx hb dX9_calls_39 rfl (lv_at hl 2 rfl) ?_
        refine lv_imul hx hb dX9_calls_40 ?_
        refine lv_iadd hx hb dX9_calls_41 ?_
        refine lv_topi (fun y_7 ey_7 => ?_)
        refine lv_istore (lv' := [(5, .int y_7), (0, .ref o), (1, .int who), (2, .int address), (3, .int time), (4, .int what)]) hx hb dX9_calls_42 hl (by decide) rfl (fun ls hl => ?_)
        refine lv_aload_n hx hb dX9_calls_44 rfl (lv_at hl 1 rfl) ?_
        refine lv_iload_n hx hb dX9_calls_45 rfl (lv_at hl 2 rfl) ?_
        refine lv_iload_n hx hb dX9_calls_46 rfl (lv_at hl 3 rfl) ?_
        refine lv_iload_n hx hb dX9_calls_47 rfl (lv_at hl 4 rfl) ?_
        refine callVv (As := [.int who, .int address, .int time]) (rest := []) (mX9_counts l D cI cC cS _ o q1 q2 q3 q4 q5 S Bg Pa Tx Nu st ln ps fm rs who address time ((as_of (hk2.trans (bi_o c7)) ho.1 ho.2.1).1) ((as_of (hk2.trans (bi_o c7)) ho.1 ho.2.1).2)) ⟨hx, hb, hml, hown, hts⟩ (cwV 3 hts gX9_calls_X9_counts rfl rfl rfl (by decide +kernel) ⟨Nat.le_of_ble_eq_true rfl, Nat.le_of_ble_eq_true rfl⟩) X0_blind (fun _ _ _ => trivial) hP hK hD hS hA hl [0, 1, 2, 3, 4, 5] rfl rfl 0 7 rfl rfl rfl rfl rfl (Nat.le_of_ble_eq_true rfl) dX9_calls_48 ⟨Nat.zero_le _, Nat.zero_le _⟩ (fun _ => rfl) (fun u_ H locs hk10 hP hD hS => ?_)
        obtain ⟨u_10, e_u_10⟩ : ∃ z, z = u_ := ⟨_, rfl⟩
        subst e_u_10
        have hP : va_P D vwCl [(o, .inr (7, [.ref q1, .ref q2, .ref q3, .int st, .ref q4, .int ln, .int ps, .int (bi fm), .int rs, .ref q5])), (q1, .inl (cI, 314, .inl u_10)), (q2, .inl (cI, 314, .inl Bg)), (q3, .inl (cI, 1256, .inl Pa)), (q4, .inl (cI, 80, .inl Tx)), (q5, .inl (cI, 5, .inl Nu))] H := hP
        have hD : va_D Fr [(o, .inr (7, [.ref q1, .ref q2, .ref q3, .int st, .ref q4, .int ln, .int ps, .int (bi fm), .int rs, .ref q5])), (q1, .inl (cI, 314, .inl u_10)), (q2, .inl (cI, 314, .inl Bg)), (q3, .inl (cI, 1256, .inl Pa)), (q4, .inl (cI, 80, .inl Tx)), (q5, .inl (cI, 5, .inl Nu))] := hD
        refine W.eq (g2 := F0 m 51 ls []) rfl ?_
        refine lv_iload hx hb dX9_calls_51 (lv_at hl 5 rfl) ?_
        refine lv_if_ne (tgt := 115) hx hb dX9_calls_53 (by decide) (fun c53 => ?_) (fun c53 => ?_)
        · refine lv_iload hx hb dX9_calls_115 (lv_at hl 5 rfl) ?_
          refine lv_iconst (v := 1) hx hb dX9_calls_117 (by decide) ?_
          refine lv_icmp_ne (tgt := 134) hx hb dX9_calls_118 (by decide) (fun c118 => ?_) (fun c118 => ?_)
          · refine lv_aload_n hx hb dX9_calls_134 rfl (lv_at hl 1 rfl) ?_
            refine lv_iload_n hx hb dX9_calls_135 rfl (lv_at hl 2 rfl) ?_
            refine lv_iload_n hx hb dX9_calls_136 rfl (lv_at hl 3 rfl) ?_
            refine lv_iload hx hb dX9_calls_137 (lv_at hl 5 rfl) ?_
            refine lv_iconst (v := 2) hx hb dX9_calls_139 (by decide) ?_
            refine lv_isub hx hb dX9_calls_140 ?_
            refine callVv (As := [.int who, .int address, .int (what - 2)]) (rest := []) (mX9_interviews l D cI cC cS _ o q1 q2 q3 q4 q5 u_10 Bg Pa Tx Nu st ln ps fm rs who address (what - 2) ((as_of (hk2.trans (bi_o c7)) ho.1 ho.2.1).1) ((as_of (hk2.trans (bi_o c7)) ho.1 ho.2.1).2) (wh_of (hk4.trans (bi_o c17)) c53 c118) (hk10 ▸ counts_ok ((as_of (hk2.trans (bi_o c7)) ho.1 ho.2.1).1) ((as_of (hk2.trans (bi_o c7)) ho.1 ho.2.1).2) ho)) ⟨hx, hb, hml, hown, hts⟩ (cwV 3 hts gX9_calls_X9_interviews rfl rfl rfl (by decide +kernel) ⟨Nat.le_of_ble_eq_true rfl, Nat.le_of_ble_eq_true rfl⟩) X0_blind (fun _ _ _ => trivial) hP hK hD hS hA hl [0, 1, 2, 3, 4, 5] rfl rfl 0 7 rfl rfl rfl rfl rfl (Nat.le_of_ble_eq_true rfl) dX9_calls_141 ⟨Nat.zero_le _, Nat.zero_le _⟩ (fun _ => rfl) (fun u_ H locs hk13 hP hD hS => ?_)
            obtain ⟨u_13, e_u_13⟩ : ∃ z, z = u_ := ⟨_, rfl⟩
            subst e_u_13
            have hP : va_P D vwCl [(o, .inr (7, [.ref q1, .ref q2, .ref q3, .int st, .ref q4, .int ln, .int ps, .int (bi fm), .int rs, .ref q5])), (q1, .inl (cI, 314, .inl u_13)), (q2, .inl (cI, 314, .inl Bg)), (q3, .inl (cI, 1256, .inl Pa)), (q4, .inl (cI, 80, .inl Tx)), (q5, .inl (cI, 5, .inl Nu))] H := hP
            have hD : va_D Fr [(o, .inr (7, [.ref q1, .ref q2, .ref q3, .int st, .ref q4, .int ln, .int ps, .int (bi fm), .int rs, .ref q5])), (q1, .inl (cI, 314, .inl u_13)), (q2, .inl (cI, 314, .inl Bg)), (q3, .inl (cI, 1256, .inl Pa)), (q4, .inl (cI, 80, .inl Tx)), (q5, .inl (cI, 5, .inl Nu))] := hD
            refine W.eq (g2 := F0 m 144 ls []) rfl ?_
            refine lv_aload_n hx hb dX9_calls_144 rfl (lv_at hl 1 rfl) ?_
            refine va_get (D := D) (ci := 7) (C := RX9) (T := TX9) (N := 10) hx hb hts w_2 hown hK hP 0 rfl rfl 0 (by decide) w_1 (fun _ h9 => h9) rfl dX9_calls_145 ?_
            refine lv_iload hx hb dX9_calls_148 (lv_at hl 0 rfl) ?_
            refine lv_iconst (v := 1) hx hb dX9_calls_150 (by decide) ?_
            refine lv_iadd hx hb dX9_calls_151 ?_
            refine va_iald hx hb hK hP 1 0 rfl rfl (by rw [ey_7]; exact ix_pl ((as_of (hk2.trans (bi_o c7)) ho.1 ho.2.1).2) (vp_d rfl)) dX9_calls_152 ?_
            exact endI hx hb hr hlk hP hK hD hS dX9_calls_153 (u_13 (y_7 + 1).toNatClampNeg, u_13) rfl ⟨(bd1_e hk2).trans ((if_pos (bi_o c7)).trans ((bd1_e hk4).trans ((if_pos (bi_o c17)).trans ((bd1_e hk6).trans ((if_pos (bi_o c29)).trans ((bd1_n ey_7).trans ((bd1_e hk10).trans ((if_neg c53).trans ((if_neg c118).trans ((bd1_e hk13).trans rfl)))))))))), rfl⟩
          · refine lv_aload_n hx hb dX9_calls_121 rfl (lv_at hl 1 rfl) ?_
            refine va_get (D := D) (ci := 7) (C := RX9) (T := TX9) (N := 10) hx hb hts w_2 hown hK hP 0 rfl rfl 0 (by decide) w_1 (fun _ h9 => h9) rfl dX9_calls_122 ?_
            refine lv_iload hx hb dX9_calls_125 (lv_at hl 0 rfl) ?_
            refine lv_iconst (v := 1) hx hb dX9_calls_127 (by decide) ?_
            refine lv_iadd hx hb dX9_calls_128 ?_
            refine lv_iconst (v := 2) hx hb dX9_calls_129 (by decide) ?_
            refine va_iast hx hb hK hP hD hS 1 0 rfl rfl (by rw [ey_7]; exact ix_pl ((as_of (hk2.trans (bi_o c7)) ho.1 ho.2.1).2) (vp_d rfl)) dX9_calls_130 (fun H locs hP hD hS => ?_)
            have hP : va_P D vwCl [(o, .inr (7, [.ref q1, .ref q2, .ref q3, .int st, .ref q4, .int ln, .int ps, .int (bi fm), .int rs, .ref q5])), (q1, .inl (cI, 314, .inl (upd u_10 (y_7 + 1).toNatClampNeg 2))), (q2, .inl (cI, 314, .inl Bg)), (q3, .inl (cI, 1256, .inl Pa)), (q4, .inl (cI, 80, .inl Tx)), (q5, .inl (cI, 5, .inl Nu))] H := hP
            have hD : va_D Fr [(o, .inr (7, [.ref q1, .ref q2, .ref q3, .int st, .ref q4, .int ln, .int ps, .int (bi fm), .int rs, .ref q5])), (q1, .inl (cI, 314, .inl (upd u_10 (y_7 + 1).toNatClampNeg 2))), (q2, .inl (cI, 314, .inl Bg)), (q3, .inl (cI, 1256, .inl Pa)), (q4, .inl (cI, 80, .inl Tx)), (q5, .inl (cI, 5, .inl Nu))] := hD
            refine lv_goto (tgt := 144) hx hb dX9_calls_131 (by decide) ?_
            refine lv_aload_n hx hb dX9_calls_144 rfl (lv_at hl 1 rfl) ?_
            refine va_get (D := D) (ci := 7) (C := RX9) (T := TX9) (N := 10) hx hb hts w_2 hown hK hP 0 rfl rfl 0 (by decide) w_1 (fun _ h9 => h9) rfl dX9_calls_145 ?_
            refine lv_iload hx hb dX9_calls_148 (lv_at hl 0 rfl) ?_
            refine lv_iconst (v := 1) hx hb dX9_calls_150 (by decide) ?_
            refine lv_iadd hx hb dX9_calls_151 ?_
            refine va_iald hx hb hK hP 1 0 rfl rfl (by rw [ey_7]; exact ix_pl ((as_of (hk2.trans (bi_o c7)) ho.1 ho.2.1).2) (vp_d rfl)) dX9_calls_152 ?_
            exact endI hx hb hr hlk hP hK hD hS dX9_calls_153 ((upd u_10 (y_7 + 1).toNatClampNeg 2) (y_7 + 1).toNatClampNeg, upd u_10 (y_7 + 1).toNatClampNeg 2) rfl ⟨(bd1_e hk2).trans ((if_pos (bi_o c7)).trans ((bd1_e hk4).trans ((if_pos (bi_o c17)).trans ((bd1_e hk6).trans ((if_pos (bi_o c29)).trans ((bd1_n ey_7).trans ((bd1_e hk10).trans ((if_neg c53).trans ((if_pos c118).trans rfl))))))))), rfl⟩
        · refine lv_aload_n hx hb dX9_calls_56 rfl (lv_at hl 1 rfl) ?_
          refine va_get (D := D) (ci := 7) (C := RX9) (T := TX9) (N := 10) hx hb hts w_2 hown hK hP 0 rfl rfl 0 (by decide) w_1 (fun _ h9 => h9) rfl dX9_calls_57 ?_
          refine lv_iload hx hb dX9_calls_60 (lv_at hl 0 rfl) ?_
          refine lv_iconst (v := 3) hx hb dX9_calls_62 (by decide) ?_
          refine lv_iadd hx hb dX9_calls_63 ?_
          refine lv_dup2_11 hx hb dX9_calls_64 rfl rfl ?_
          refine va_iald hx hb hK hP 1 0 rfl rfl (by rw [ey_7]; exact ix_pl ((as_of (hk2.trans (bi_o c7)) ho.1 ho.2.1).2) (vp_d rfl)) dX9_calls_65 ?_
          refine lv_iconst (v := 1) hx hb dX9_calls_66 (by decide) ?_
          refine lv_iadd hx hb dX9_calls_67 ?_
          refine va_iast hx hb hK hP hD hS 1 0 rfl rfl (by rw [ey_7]; exact ix_pl ((as_of (hk2.trans (bi_o c7)) ho.1 ho.2.1).2) (vp_d rfl)) dX9_calls_68 (fun H locs hP hD hS => ?_)
          have hP : va_P D vwCl [(o, .inr (7, [.ref q1, .ref q2, .ref q3, .int st, .ref q4, .int ln, .int ps, .int (bi fm), .int rs, .ref q5])), (q1, .inl (cI, 314, .inl (upd u_10 (y_7 + 3).toNatClampNeg ((u_10 (y_7 + 3).toNatClampNeg) + 1)))), (q2, .inl (cI, 314, .inl Bg)), (q3, .inl (cI, 1256, .inl Pa)), (q4, .inl (cI, 80, .inl Tx)), (q5, .inl (cI, 5, .inl Nu))] H := hP
          have hD : va_D Fr [(o, .inr (7, [.ref q1, .ref q2, .ref q3, .int st, .ref q4, .int ln, .int ps, .int (bi fm), .int rs, .ref q5])), (q1, .inl (cI, 314, .inl (upd u_10 (y_7 + 3).toNatClampNeg ((u_10 (y_7 + 3).toNatClampNeg) + 1)))), (q2, .inl (cI, 314, .inl Bg)), (q3, .inl (cI, 1256, .inl Pa)), (q4, .inl (cI, 80, .inl Tx)), (q5, .inl (cI, 5, .inl Nu))] := hD
          refine lv_aload_n hx hb dX9_calls_69 rfl (lv_at hl 1 rfl) ?_
          refine va_get (D := D) (ci := 7) (C := RX9) (T := TX9) (N := 10) hx hb hts w_2 hown hK hP 0 rfl rfl 0 (by decide) w_1 (fun _ h9 => h9) rfl dX9_calls_70 ?_
          refine lv_iconst (v := 4) hx hb dX9_calls_73 (by decide) ?_
          refine lv_dup2_11 hx hb dX9_calls_74 rfl rfl ?_
          refine va_iald hx hb hK hP 1 0 rfl rfl (vp_d rfl) dX9_calls_75 ?_
          refine W.eq (g2 := F0 m 76 ls [.int ((upd u_10 (y_7 + 3).toNatClampNeg ((u_10 (y_7 + 3).toNatClampNeg) + 1)) 4), .int 4, .ref q1]) rfl ?_
          refine lv_iconst (v := 1) hx hb dX9_calls_76 (by decide) ?_
          refine lv_iadd hx hb dX9_calls_77 ?_
          refine va_iast hx hb hK hP hD hS 1 0 rfl rfl (vp_d rfl) dX9_calls_78 (fun H locs hP hD hS => ?_)
          have hP : va_P D vwCl [(o, .inr (7, [.ref q1, .ref q2, .ref q3, .int st, .ref q4, .int ln, .int ps, .int (bi fm), .int rs, .ref q5])), (q1, .inl (cI, 314, .inl (upd (upd u_10 (y_7 + 3).toNatClampNeg ((u_10 (y_7 + 3).toNatClampNeg) + 1)) 4 (((upd u_10 (y_7 + 3).toNatClampNeg ((u_10 (y_7 + 3).toNatClampNeg) + 1)) 4) + 1)))), (q2, .inl (cI, 314, .inl Bg)), (q3, .inl (cI, 1256, .inl Pa)), (q4, .inl (cI, 80, .inl Tx)), (q5, .inl (cI, 5, .inl Nu))] H := hP
          have hD : va_D Fr [(o, .inr (7, [.ref q1, .ref q2, .ref q3, .int st, .ref q4, .int ln, .int ps, .int (bi fm), .int rs, .ref q5])), (q1, .inl (cI, 314, .inl (upd (upd u_10 (y_7 + 3).toNatClampNeg ((u_10 (y_7 + 3).toNatClampNeg) + 1)) 4 (((upd u_10 (y_7 + 3).toNatClampNeg ((u_10 (y_7 + 3).toNatClampNeg) + 1)) 4) + 1)))), (q2, .inl (cI, 314, .inl Bg)), (q3, .inl (cI, 1256, .inl Pa)), (q4, .inl (cI, 80, .inl Tx)), (q5, .inl (cI, 5, .inl Nu))] := hD
          refine lv_aload_n hx hb dX9_calls_79 rfl (lv_at hl 1 rfl) ?_
          refine va_get (D := D) (ci := 7) (C := RX9) (T := TX9) (N := 10) hx hb hts w_2 hown hK hP 0 rfl rfl 0 (by decide) w_1 (fun _ h9 => h9) rfl dX9_calls_80 ?_
          refine lv_iload hx hb dX9_calls_83 (lv_at hl 0 rfl) ?_
          refine lv_iconst (v := 1) hx hb dX9_calls_85 (by decide) ?_
          refine lv_iadd hx hb dX9_calls_86 ?_
          refine lv_aload_n hx hb dX9_calls_87 rfl (lv_at hl 1 rfl) ?_
          refine va_get (D := D) (ci := 7) (C := RX9) (T := TX9) (N := 10) hx hb hts w_2 hown hK hP 0 rfl rfl 0 (by decide) w_1 (fun _ h9 => h9) rfl dX9_calls_88 ?_
          refine lv_iload hx hb dX9_calls_91 (lv_at hl 0 rfl) ?_
          refine lv_iconst (v := 3) hx hb dX9_calls_93 (by decide) ?_
          refine lv_iadd hx hb dX9_calls_94 ?_
          refine va_iald hx hb hK hP 1 0 rfl rfl (by rw [ey_7]; exact ix_pl ((as_of (hk2.trans (bi_o c7)) ho.1 ho.2.1).2) (vp_d rfl)) dX9_calls_95 ?_
          refine lv_aload_n hx hb dX9_calls_96 rfl (lv_at hl 1 rfl) ?_
          refine va_get (D := D) (ci := 7) (C := RX9) (T := TX9) (N := 10) hx hb hts w_2 hown hK hP 0 rfl rfl 0 (by decide) w_1 (fun _ h9 => h9) rfl dX9_calls_97 ?_
          refine lv_bipush (v := 6) hx hb dX9_calls_100 (by decide) ?_
          refine va_iald hx hb hK hP 1 0 rfl rfl (vp_d rfl) dX9_calls_102 ?_
          refine W.eq (g2 := F0 m 103 ls [.int ((upd (upd u_10 (y_7 + 3).toNatClampNeg ((u_10 (y_7 + 3).toNatClampNeg) + 1)) 4 (((upd u_10 (y_7 + 3).toNatClampNeg ((u_10 (y_7 + 3).toNatClampNeg) + 1)) 4) + 1)) 6), .int ((upd (upd u_10 (y_7 + 3).toNatClampNeg ((u_10 (y_7 + 3).toNatClampNeg) + 1)) 4 (((upd u_10 (y_7 + 3).toNatClampNeg ((u_10 (y_7 + 3).toNatClampNeg) + 1)) 4) + 1)) (y_7 + 3).toNatClampNeg), .int (y_7 + 1), .ref q1]) rfl ?_
          refine lv_icmp_lt (tgt := 110) hx hb dX9_calls_103 (by decide) (fun c103 => ?_) (fun c103 => ?_)
          · refine lv_iconst (v := 0) hx hb dX9_calls_110 (by decide) ?_
            refine va_iast hx hb hK hP hD hS 1 0 rfl rfl (by rw [ey_7]; exact ix_pl ((as_of (hk2.trans (bi_o c7)) ho.1 ho.2.1).2) (vp_d rfl)) dX9_calls_111 (fun H locs hP hD hS => ?_)
            have hP : va_P D vwCl [(o, .inr (7, [.ref q1, .ref q2, .ref q3, .int st, .ref q4, .int ln, .int ps, .int (bi fm), .int rs, .ref q5])), (q1, .inl (cI, 314, .inl (upd (upd (upd u_10 (y_7 + 3).toNatClampNeg ((u_10 (y_7 + 3).toNatClampNeg) + 1)) 4 (((upd u_10 (y_7 + 3).toNatClampNeg ((u_10 (y_7 + 3).toNatClampNeg) + 1)) 4) + 1)) (y_7 + 1).toNatClampNeg 0))), (q2, .inl (cI, 314, .inl Bg)), (q3, .inl (cI, 1256, .inl Pa)), (q4, .inl (cI, 80, .inl Tx)), (q5, .inl (cI, 5, .inl Nu))] H := hP
            have hD : va_D Fr [(o, .inr (7, [.ref q1, .ref q2, .ref q3, .int st, .ref q4, .int ln, .int ps, .int (bi fm), .int rs, .ref q5])), (q1, .inl (cI, 314, .inl (upd (upd (upd u_10 (y_7 + 3).toNatClampNeg ((u_10 (y_7 + 3).toNatClampNeg) + 1)) 4 (((upd u_10 (y_7 + 3).toNatClampNeg ((u_10 (y_7 + 3).toNatClampNeg) + 1)) 4) + 1)) (y_7 + 1).toNatClampNeg 0))), (q2, .inl (cI, 314, .inl Bg)), (q3, .inl (cI, 1256, .inl Pa)), (q4, .inl (cI, 80, .inl Tx)), (q5, .inl (cI, 5, .inl Nu))] := hD
            refine lv_goto (tgt := 144) hx hb dX9_calls_112 (by decide) ?_
            refine lv_aload_n hx hb dX9_calls_144 rfl (lv_at hl 1 rfl) ?_
            refine va_get (D := D) (ci := 7) (C := RX9) (T := TX9) (N := 10) hx hb hts w_2 hown hK hP 0 rfl rfl 0 (by decide) w_1 (fun _ h9 => h9) rfl dX9_calls_145 ?_
            refine lv_iload hx hb dX9_calls_148 (lv_at hl 0 rfl) ?_
            refine lv_iconst (v := 1) hx hb dX9_calls_150 (by decide) ?_
            refine lv_iadd hx hb dX9_calls_151 ?_
            refine va_iald hx hb hK hP 1 0 rfl rfl (by rw [ey_7]; exact ix_pl ((as_of (hk2.trans (bi_o c7)) ho.1 ho.2.1).2) (vp_d rfl)) dX9_calls_152 ?_
            exact endI hx hb hr hlk hP hK hD hS dX9_calls_153 ((upd (upd (upd u_10 (y_7 + 3).toNatClampNeg ((u_10 (y_7 + 3).toNatClampNeg) + 1)) 4 (((upd u_10 (y_7 + 3).toNatClampNeg ((u_10 (y_7 + 3).toNatClampNeg) + 1)) 4) + 1)) (y_7 + 1).toNatClampNeg 0) (y_7 + 1).toNatClampNeg, upd (upd (upd u_10 (y_7 + 3).toNatClampNeg ((u_10 (y_7 + 3).toNatClampNeg) + 1)) 4 (((upd u_10 (y_7 + 3).toNatClampNeg ((u_10 (y_7 + 3).toNatClampNeg) + 1)) 4) + 1)) (y_7 + 1).toNatClampNeg 0) rfl ⟨(bd1_e hk2).trans ((if_pos (bi_o c7)).trans ((bd1_e hk4).trans ((if_pos (bi_o c17)).trans ((bd1_e hk6).trans ((if_pos (bi_o c29)).trans ((bd1_n ey_7).trans ((bd1_e hk10).trans ((if_pos c53).trans ((if_pos c103).trans rfl))))))))), rfl⟩
          · refine lv_iconst (v := 3) hx hb dX9_calls_106 (by decide) ?_
            refine lv_goto (tgt := 111) hx hb dX9_calls_107 (by decide) ?_
            refine va_iast hx hb hK hP hD hS 1 0 rfl rfl (by rw [ey_7]; exact ix_pl ((as_of (hk2.trans (bi_o c7)) ho.1 ho.2.1).2) (vp_d rfl)) dX9_calls_111 (fun H locs hP hD hS => ?_)
            have hP : va_P D vwCl [(o, .inr (7, [.ref q1, .ref q2, .ref q3, .int st, .ref q4, .int ln, .int ps, .int (bi fm), .int rs, .ref q5])), (q1, .inl (cI, 314, .inl (upd (upd (upd u_10 (y_7 + 3).toNatClampNeg ((u_10 (y_7 + 3).toNatClampNeg) + 1)) 4 (((upd u_10 (y_7 + 3).toNatClampNeg ((u_10 (y_7 + 3).toNatClampNeg) + 1)) 4) + 1)) (y_7 + 1).toNatClampNeg 3))), (q2, .inl (cI, 314, .inl Bg)), (q3, .inl (cI, 1256, .inl Pa)), (q4, .inl (cI, 80, .inl Tx)), (q5, .inl (cI, 5, .inl Nu))] H := hP
            have hD : va_D Fr [(o, .inr (7, [.ref q1, .ref q2, .ref q3, .int st, .ref q4, .int ln, .int ps, .int (bi fm), .int rs, .ref q5])), (q1, .inl (cI, 314, .inl (upd (upd (upd u_10 (y_7 + 3).toNatClampNeg ((u_10 (y_7 + 3).toNatClampNeg) + 1)) 4 (((upd u_10 (y_7 + 3).toNatClampNeg ((u_10 (y_7 + 3).toNatClampNeg) + 1)) 4) + 1)) (y_7 + 1).toNatClampNeg 3))), (q2, .inl (cI, 314, .inl Bg)), (q3, .inl (cI, 1256, .inl Pa)), (q4, .inl (cI, 80, .inl Tx)), (q5, .inl (cI, 5, .inl Nu))] := hD
            refine lv_goto (tgt := 144) hx hb dX9_calls_112 (by decide) ?_
            refine lv_aload_n hx hb dX9_calls_144 rfl (lv_at hl 1 rfl) ?_
            refine va_get (D := D) (ci := 7) (C := RX9) (T := TX9) (N := 10) hx hb hts w_2 hown hK hP 0 rfl rfl 0 (by decide) w_1 (fun _ h9 => h9) rfl dX9_calls_145 ?_
            refine lv_iload hx hb dX9_calls_148 (lv_at hl 0 rfl) ?_
            refine lv_iconst (v := 1) hx hb dX9_calls_150 (by decide) ?_
            refine lv_iadd hx hb dX9_calls_151 ?_
            refine va_iald hx hb hK hP 1 0 rfl rfl (by rw [ey_7]; exact ix_pl ((as_of (hk2.trans (bi_o c7)) ho.1 ho.2.1).2) (vp_d rfl)) dX9_calls_152 ?_
            exact endI hx hb hr hlk hP hK hD hS dX9_calls_153 ((upd (upd (upd u_10 (y_7 + 3).toNatClampNeg ((u_10 (y_7 + 3).toNatClampNeg) + 1)) 4 (((upd u_10 (y_7 + 3).toNatClampNeg ((u_10 (y_7 + 3).toNatClampNeg) + 1)) 4) + 1)) (y_7 + 1).toNatClampNeg 3) (y_7 + 1).toNatClampNeg, upd (upd (upd u_10 (y_7 + 3).toNatClampNeg ((u_10 (y_7 + 3).toNatClampNeg) + 1)) 4 (((upd u_10 (y_7 + 3).toNatClampNeg ((u_10 (y_7 + 3).toNatClampNeg) + 1)) 4) + 1)) (y_7 + 1).toNatClampNeg 3) rfl ⟨(bd1_e hk2).trans ((if_pos (bi_o c7)).trans ((bd1_e hk4).trans ((if_pos (bi_o c17)).trans ((bd1_e hk6).trans ((if_pos (bi_o c29)).trans ((bd1_n ey_7).trans ((bd1_e hk10).trans ((if_pos c53).trans ((if_neg c103).trans rfl))))))))), rfl⟩
      · refine lv_bipush (v := (-2)) hx hb dX9_calls_32 (by decide) ?_
        exact endI hx hb hr hlk hP hK hD hS dX9_calls_34 ((-2), S) rfl ⟨(bd1_e hk2).trans ((if_pos (bi_o c7)).trans ((bd1_e hk4).trans ((if_pos (bi_o c17)).trans ((bd1_e hk6).trans ((if_neg (bi_z c29)).trans rfl))))), rfl⟩
    · refine lv_iconst (v := (-1)) hx hb dX9_calls_20 (by decide) ?_
      exact endI hx hb hr hlk hP hK hD hS dX9_calls_21 ((-1), S) rfl ⟨(bd1_e hk2).trans ((if_pos (bi_o c7)).trans ((bd1_e hk4).trans ((if_neg (bi_z c17)).trans rfl))), rfl⟩


/-- the value of X9_fixes, path by path -/
def fX9_fixes (S : Nat → Int32) (who : Int32) (address : Int32) (time : Int32) (day : Int32) (then_ : Int32) : Int32 × (Nat → Int32) :=
  bd1 (fX9_isAsked S who address time) (fun (r_2 : Bool) => (if r_2 = true then bd1 (fX9_in day 0 999) (fun (r_4 : Bool) => (if r_4 = true then bd1 (fX9_in then_ 0 2) (fun (r_6 : Bool) => (if r_6 = true then bd1 (fX9_mayCall S who address time) (fun (r_8 : Bool) => (if r_8 = true then (if S 2 < day then bd1 (fX9_counts S who address time) (fun (u_11 : Nat → Int32) => bd1 (fX9_appointments (upd (upd u_11 ((74 + (10 * address)) + 6).toNatClampNeg (day + 1)) ((74 + (10 * address)) + 7).toNatClampNeg then_)) (fun (r_13 : Int32) => (r_13, upd (upd u_11 ((74 + (10 * address)) + 6).toNatClampNeg (day + 1)) ((74 + (10 * address)) + 7).toNatClampNeg then_))) else ((-2), S)) else ((-2), S))) else ((-1), S))) else ((-1), S))) else ((-1), S)))

set_option maxHeartbeats 4000000 in
set_option maxRecDepth 100000 in
/-- X9_fixes -/
theorem mX9_fixes (l : Launch) (D : va_G) (cI cC cS : ClassId) (sz : Nat) (o : Nat) (q1 : Nat) (q2 : Nat) (q3 : Nat) (q4 : Nat) (q5 : Nat) (S : Nat → Int32) (Bg : Nat → Int32) (Pa : Nat → Int32) (Tx : Nat → Int32) (Nu : Nat → Int32) (st : Int32) (ln : Int32) (ps : Int32) (fm : Bool) (rs : Int32) (who : Int32) (address : Int32) (time : Int32) (day : Int32) (then_ : Int32) (ho : okS S) : Met l yX9_fixes wsX9_fixes ({ frames := 5, cells := 0, slots := 0, locals := 108 } : Jvm.Room) (va_Pc [.ref o, .int who, .int address, .int time, .int day, .int then_] (wPre D (TY cI cC cS) [(o, .inr (7, [.ref q1, .ref q2, .ref q3, .int st, .ref q4, .int ln, .int ps, .int (bi fm), .int rs, .ref q5])), (q1, .inl (cI, 314, .inl S)), (q2, .inl (cI, 314, .inl Bg)), (q3, .inl (cI, 1256, .inl Pa)), (q4, .inl (cI, 80, .inl Tx)), (q5, .inl (cI, 5, .inl Nu))] sz X0)) (qI D (TY cI cC cS) (fun (r : Int32) (u : Int32 × (Nat → Int32)) => fX9_fixes S who address time day then_ = u ∧ r = u.1) (fun u => [(o, .inr (7, [.ref q1, .ref q2, .ref q3, .int st, .ref q4, .int ln, .int ps, .int (bi fm), .int rs, .ref q5])), (q1, .inl (cI, 314, .inl u.2)), (q2, .inl (cI, 314, .inl Bg)), (q3, .inl (cI, 1256, .inl Pa)), (q4, .inl (cI, 80, .inl Tx)), (q5, .inl (cI, 5, .inl Nu))]) (va_A [(o, .inr (7, [.ref q1, .ref q2, .ref q3, .int st, .ref q4, .int ln, .int ps, .int (bi fm), .int rs, .ref q5])), (q1, .inl (cI, 314, .inl S)), (q2, .inl (cI, 314, .inl Bg)), (q3, .inl (cI, 1256, .inl Pa)), (q4, .inl (cI, 80, .inl Tx)), (q5, .inl (cI, 5, .inl Nu))] sz)) 0 0 (va_A [(o, .inr (7, [.ref q1, .ref q2, .ref q3, .int st, .ref q4, .int ln, .int ps, .int (bi fm), .int rs, .ref q5])), (q1, .inl (cI, 314, .inl S)), (q2, .inl (cI, 314, .inl Bg)), (q3, .inl (cI, 1256, .inl Pa)), (q4, .inl (cI, 80, .inl Tx)), (q5, .inl (cI, 5, .inl Nu))] sz) := by
  refine mkM (fun Fr => qI D (TY cI cC cS) (fun (r : Int32) (u : Int32 × (Nat → Int32)) => fX9_fixes S who address time day then_ = u ∧ r = u.1) (fun u => [(o, .inr (7, [.ref q1, .ref q2, .ref q3, .int st, .ref q4, .int ln, .int ps, .int (bi fm), .int rs, .ref q5])), (q1, .inl (cI, 314, .inl u.2)), (q2, .inl (cI, 314, .inl Bg)), (q3, .inl (cI, 1256, .inl Pa)), (q4, .inl (cI, 80, .inl Tx)), (q5, .inl (cI, 5, .inl Nu))]) Fr) (cc := cX9_fixes) (maxL := 6) (ret := (some .int)) (own := RX9) (lv := [(0, .ref o), (1, .int who), (2, .int address), (3, .int time), (4, .int day), (5, .int then_)]) (by decide) rfl rfl (Nat.le_of_ble_eq_true rfl) rfl ?_
  intro p e s m below meth c Fr ls hx hb hr hts hown hml hlk hin hP hK hD hS hA hAe hsz hX hl
  have w_1 := hts (.fieldLink RX9 7 "FieldQuotasModel" "s" "[I") (List.mem_of_getElem? (i := 1) rfl)
  have w_2 := sub_r (big := wsX9_fixes) (u_ws RX9 TX9 10) [50, 51, 52, 53, 54, 55, 56, 57, 58, 59] rfl
  refine lv_aload_n hx hb dX9_fixes_0 rfl (lv_at hl 0 rfl) ?_
  refine lv_iload_n hx hb dX9_fixes_1 rfl (lv_at hl 1 rfl) ?_
  refine lv_iload_n hx hb dX9_fixes_2 rfl (lv_at hl 2 rfl) ?_
  refine lv_iload_n hx hb dX9_fixes_3 rfl (lv_at hl 3 rfl) ?_
  refine callVi (As := [.int who, .int address, .int time]) (rest := []) (mX9_isAsked l D cI cC cS _ o q1 q2 q3 q4 q5 S Bg Pa Tx Nu st ln ps fm rs who address time) ⟨hx, hb, hml, hown, hts⟩ (cwV 3 hts gX9_fixes_X9_isAsked rfl rfl rfl (by decide +kernel) ⟨Nat.le_of_ble_eq_true rfl, Nat.le_of_ble_eq_true rfl⟩) X0_blind (fun _ _ _ => trivial) hP hK hD hS hA hl [0, 1, 2, 3, 4, 5] rfl rfl 0 7 rfl rfl rfl rfl rfl (Nat.le_of_ble_eq_true rfl) dX9_fixes_4 ⟨Nat.zero_le _, Nat.zero_le _⟩ (fun _ => rfl) (fun u_ H locs hk2 hP hD hS => ?_)
  obtain ⟨r_2, e_r_2⟩ : ∃ z, z = u_ := ⟨_, rfl⟩
  subst e_r_2
  have hP : va_P D vwCl [(o, .inr (7, [.ref q1, .ref q2, .ref q3, .int st, .ref q4, .int ln, .int ps, .int (bi fm), .int rs, .ref q5])), (q1, .inl (cI, 314, .inl S)), (q2, .inl (cI, 314, .inl Bg)), (q3, .inl (cI, 1256, .inl Pa)), (q4, .inl (cI, 80, .inl Tx)), (q5, .inl (cI, 5, .inl Nu))] H := hP
  have hD : va_D Fr [(o, .inr (7, [.ref q1, .ref q2, .ref q3, .int st, .ref q4, .int ln, .int ps, .int (bi fm), .int rs, .ref q5])), (q1, .inl (cI, 314, .inl S)), (q2, .inl (cI, 314, .inl Bg)), (q3, .inl (cI, 1256, .inl Pa)), (q4, .inl (cI, 80, .inl Tx)), (q5, .inl (cI, 5, .inl Nu))] := hD
  refine W.eq (g2 := F0 m 7 ls [.int (bi r_2)]) rfl ?_
  refine lv_if_eq (tgt := 32) hx hb dX9_fixes_7 (by decide) (fun c7 => ?_) (fun c7 => ?_)
  · refine lv_iconst (v := (-1)) hx hb dX9_fixes_32 (by decide) ?_
    exact endI hx hb hr hlk hP hK hD hS dX9_fixes_33 ((-1), S) rfl ⟨(bd1_e hk2).trans ((if_neg (bi_z c7)).trans rfl), rfl⟩
  · refine lv_iload hx hb dX9_fixes_10 (lv_at hl 4 rfl) ?_
    refine lv_iconst (v := 0) hx hb dX9_fixes_12 (by decide) ?_
    refine lv_sipush (v := 999) hx hb dX9_fixes_13 (by decide) ?_
    refine callSi (As := [.int day, .int 0, .int 999]) (rest := []) (mX9_in l D cI cC cS _ day 0 999) ⟨hx, hb, hml, hown, hts⟩ (va_cwS 3 hts gX9_fixes_X9_in rfl rfl rfl (by decide +kernel) ⟨Nat.le_of_ble_eq_true rfl, Nat.le_of_ble_eq_true rfl⟩) hP hK hD hS hA hl rfl rfl (Nat.le_of_ble_eq_true rfl) dX9_fixes_16 ⟨Nat.zero_le _, Nat.zero_le _⟩ (fun u_ H locs hk4 hP hS => ?_)
    obtain ⟨r_4, e_r_4⟩ : ∃ z, z = u_ := ⟨_, rfl⟩
    subst e_r_4
    refine W.eq (g2 := F0 m 19 ls [.int (bi r_4)]) rfl ?_
    refine lv_if_eq (tgt := 32) hx hb dX9_fixes_19 (by decide) (fun c19 => ?_) (fun c19 => ?_)
    · refine lv_iconst (v := (-1)) hx hb dX9_fixes_32 (by decide) ?_
      exact endI hx hb hr hlk hP hK hD hS dX9_fixes_33 ((-1), S) rfl ⟨(bd1_e hk2).trans ((if_pos (bi_o c7)).trans ((bd1_e hk4).trans ((if_neg (bi_z c19)).trans rfl))), rfl⟩
    · refine lv_iload hx hb dX9_fixes_22 (lv_at hl 5 rfl) ?_
      refine lv_iconst (v := 0) hx hb dX9_fixes_24 (by decide) ?_
      refine lv_iconst (v := 2) hx hb dX9_fixes_25 (by decide) ?_
      refine callSi (As := [.int then_, .int 0, .int 2]) (rest := []) (mX9_in l D cI cC cS _ then_ 0 2) ⟨hx, hb, hml, hown, hts⟩ (va_cwS 3 hts gX9_fixes_X9_in rfl rfl rfl (by decide +kernel) ⟨Nat.le_of_ble_eq_true rfl, Nat.le_of_ble_eq_true rfl⟩) hP hK hD hS hA hl rfl rfl (Nat.le_of_ble_eq_true rfl) dX9_fixes_26 ⟨Nat.zero_le _, Nat.zero_le _⟩ (fun u_ H locs hk6 hP hS => ?_)
      obtain ⟨r_6, e_r_6⟩ : ∃ z, z = u_ := ⟨_, rfl⟩
      subst e_r_6
      refine W.eq (g2 := F0 m 29 ls [.int (bi r_6)]) rfl ?_
      refine lv_if_ne (tgt := 34) hx hb dX9_fixes_29 (by decide) (fun c29 => ?_) (fun c29 => ?_)
      · refine lv_aload_n hx hb dX9_fixes_34 rfl (lv_at hl 0 rfl) ?_
        refine lv_iload_n hx hb dX9_fixes_35 rfl (lv_at hl 1 rfl) ?_
        refine lv_iload_n hx hb dX9_fixes_36 rfl (lv_at hl 2 rfl) ?_
        refine lv_iload_n hx hb dX9_fixes_37 rfl (lv_at hl 3 rfl) ?_
        refine callVi (As := [.int who, .int address, .int time]) (rest := []) (mX9_mayCall l D cI cC cS _ o q1 q2 q3 q4 q5 S Bg Pa Tx Nu st ln ps fm rs who address time ((as_of (hk2.trans (bi_o c7)) ho.1 ho.2.1).1) ((as_of (hk2.trans (bi_o c7)) ho.1 ho.2.1).2)) ⟨hx, hb, hml, hown, hts⟩ (cwV 3 hts gX9_fixes_X9_mayCall rfl rfl rfl (by decide +kernel) ⟨Nat.le_of_ble_eq_true rfl, Nat.le_of_ble_eq_true rfl⟩) X0_blind (fun _ _ _ => trivial) hP hK hD hS hA hl [0, 1, 2, 3, 4, 5] rfl rfl 0 7 rfl rfl rfl rfl rfl (Nat.le_of_ble_eq_true rfl) dX9_fixes_38 ⟨Nat.zero_le _, Nat.zero_le _⟩ (fun _ => rfl) (fun u_ H locs hk8 hP hD hS => ?_)
        obtain ⟨r_8, e_r_8⟩ : ∃ z, z = u_ := ⟨_, rfl⟩
        subst e_r_8
        have hP : va_P D vwCl [(o, .inr (7, [.ref q1, .ref q2, .ref q3, .int st, .ref q4, .int ln, .int ps, .int (bi fm), .int rs, .ref q5])), (q1, .inl (cI, 314, .inl S)), (q2, .inl (cI, 314, .inl Bg)), (q3, .inl (cI, 1256, .inl Pa)), (q4, .inl (cI, 80, .inl Tx)), (q5, .inl (cI, 5, .inl Nu))] H := hP
        have hD : va_D Fr [(o, .inr (7, [.ref q1, .ref q2, .ref q3, .int st, .ref q4, .int ln, .int ps, .int (bi fm), .int rs, .ref q5])), (q1, .inl (cI, 314, .inl S)), (q2, .inl (cI, 314, .inl Bg)), (q3, .inl (cI, 1256, .inl Pa)), (q4, .inl (cI, 80, .inl Tx)), (q5, .inl (cI, 5, .inl Nu))] := hD
        refine W.eq (g2 := F0 m 41 ls [.int (bi r_8)]) rfl ?_
        refine lv_if_eq (tgt := 55) hx hb dX9_fixes_41 (by decide) (fun c41 => ?_) (fun c41 => ?_)
        · refine lv_bipush (v := (-2)) hx hb dX9_fixes_55 (by decide) ?_
          exact endI hx hb hr hlk hP hK hD hS dX9_fixes_57 ((-2), S) rfl ⟨(bd1_e hk2).trans ((if_pos (bi_o c7)).trans ((bd1_e hk4).trans ((if_pos (bi_o c19)).trans ((bd1_e hk6).trans ((if_pos (bi_o c29)).trans ((bd1_e hk8).trans ((if_neg (bi_z c41)).trans rfl))))))), rfl⟩
        · refine lv_iload hx hb dX9_fixes_44 (lv_at hl 4 rfl) ?_
          refine lv_aload_n hx hb dX9_fixes_46 rfl (lv_at hl 0 rfl) ?_
          refine va_get (D := D) (ci := 7) (C := RX9) (T := TX9) (N := 10) hx hb hts w_2 hown hK hP 0 rfl rfl 0 (by decide) w_1 (fun _ h9 => h9) rfl dX9_fixes_47 ?_
          refine lv_iconst (v := 2) hx hb dX9_fixes_50 (by decide) ?_
          refine va_iald hx hb hK hP 1 0 rfl rfl (vp_d rfl) dX9_fixes_51 ?_
          refine W.eq (g2 := F0 m 52 ls [.int (S 2), .int day]) rfl ?_
          refine lv_icmp_gt (tgt := 58) hx hb dX9_fixes_52 (by decide) (fun c52 => ?_) (fun c52 => ?_)
          · refine lv_aload_n hx hb dX9_fixes_58 rfl (lv_at hl 0 rfl) ?_
            refine lv_iload_n hx hb dX9_fixes_59 rfl (lv_at hl 1 rfl) ?_
            refine lv_iload_n hx hb dX9_fixes_60 rfl (lv_at hl 2 rfl) ?_
            refine lv_iload_n hx hb dX9_fixes_61 rfl (lv_at hl 3 rfl) ?_
            refine callVv (As := [.int who, .int address, .int time]) (rest := []) (mX9_counts l D cI cC cS _ o q1 q2 q3 q4 q5 S Bg Pa Tx Nu st ln ps fm rs who address time ((as_of (hk2.trans (bi_o c7)) ho.1 ho.2.1).1) ((as_of (hk2.trans (bi_o c7)) ho.1 ho.2.1).2)) ⟨hx, hb, hml, hown, hts⟩ (cwV 3 hts gX9_fixes_X9_counts rfl rfl rfl (by decide +kernel) ⟨Nat.le_of_ble_eq_true rfl, Nat.le_of_ble_eq_true rfl⟩) X0_blind (fun _ _ _ => trivial) hP hK hD hS hA hl [0, 1, 2, 3, 4, 5] rfl rfl 0 7 rfl rfl rfl rfl rfl (Nat.le_of_ble_eq_true rfl) dX9_fixes_62 ⟨Nat.zero_le _, Nat.zero_le _⟩ (fun _ => rfl) (fun u_ H locs hk11 hP hD hS => ?_)
            obtain ⟨u_11, e_u_11⟩ : ∃ z, z = u_ := ⟨_, rfl⟩
            subst e_u_11
            have hP : va_P D vwCl [(o, .inr (7, [.ref q1, .ref q2, .ref q3, .int st, .ref q4, .int ln, .int ps, .int (bi fm), .int rs, .ref q5])), (q1, .inl (cI, 314, .inl u_11)), (q2, .inl (cI, 314, .inl Bg)), (q3, .inl (cI, 1256, .inl Pa)), (q4, .inl (cI, 80, .inl Tx)), (q5, .inl (cI, 5, .inl Nu))] H := hP
            have hD : va_D Fr [(o, .inr (7, [.ref q1, .ref q2, .ref q3, .int st, .ref q4, .int ln, .int ps, .int (bi fm), .int rs, .ref q5])), (q1, .inl (cI, 314, .inl u_11)), (q2, .inl (cI, 314, .inl Bg)), (q3, .inl (cI, 1256, .inl Pa)), (q4, .inl (cI, 80, .inl Tx)), (q5, .inl (cI, 5, .inl Nu))] := hD
            refine W.eq (g2 := F0 m 65 ls []) rfl ?_
            refine lv_aload_n hx hb dX9_fixes_65 rfl (lv_at hl 0 rfl) ?_
            refine va_get (D := D) (ci := 7) (C := RX9) (T := TX9) (N := 10) hx hb hts w_2 hown hK hP 0 rfl rfl 0 (by decide) w_1 (fun _ h9 => h9) rfl dX9_fixes_66 ?_
            refine lv_bipush (v := 74) hx hb dX9_fixes_69 (by decide) ?_
            refine lv_bipush (v := 10) hx hb dX9_fixes_71 (by decide) ?_
            refine lv_iload_n hx hb dX9_fixes_73 rfl (lv_at hl 2 rfl) ?_
            refine lv_imul hx hb dX9_fixes_74 ?_
            refine lv_iadd hx hb dX9_fixes_75 ?_
            refine lv_bipush (v := 6) hx hb dX9_fixes_76 (by decide) ?_
            refine lv_iadd hx hb dX9_fixes_78 ?_
            refine lv_iload hx hb dX9_fixes_79 (lv_at hl 4 rfl) ?_
            refine lv_iconst (v := 1) hx hb dX9_fixes_81 (by decide) ?_
            refine lv_iadd hx hb dX9_fixes_82 ?_
            refine va_iast hx hb hK hP hD hS 1 0 rfl rfl (ix_pl ((as_of (hk2.trans (bi_o c7)) ho.1 ho.2.1).2) (vp_d rfl)) dX9_fixes_83 (fun H locs hP hD hS => ?_)
            have hP : va_P D vwCl [(o, .inr (7, [.ref q1, .ref q2, .ref q3, .int st, .ref q4, .int ln, .int ps, .int (bi fm), .int rs, .ref q5])), (q1, .inl (cI, 314, .inl (upd u_11 ((74 + (10 * address)) + 6).toNatClampNeg (day + 1)))), (q2, .inl (cI, 314, .inl Bg)), (q3, .inl (cI, 1256, .inl Pa)), (q4, .inl (cI, 80, .inl Tx)), (q5, .inl (cI, 5, .inl Nu))] H := hP
            have hD : va_D Fr [(o, .inr (7, [.ref q1, .ref q2, .ref q3, .int st, .ref q4, .int ln, .int ps, .int (bi fm), .int rs, .ref q5])), (q1, .inl (cI, 314, .inl (upd u_11 ((74 + (10 * address)) + 6).toNatClampNeg (day + 1)))), (q2, .inl (cI, 314, .inl Bg)), (q3, .inl (cI, 1256, .inl Pa)), (q4, .inl (cI, 80, .inl Tx)), (q5, .inl (cI, 5, .inl Nu))] := hD
            refine lv_aload_n hx hb dX9_fixes_84 rfl (lv_at hl 0 rfl) ?_
            refine va_get (D := D) (ci := 7) (C := RX9) (T := TX9) (N := 10) hx hb hts w_2 hown hK hP 0 rfl rfl 0 (by decide) w_1 (fun _ h9 => h9) rfl dX9_fixes_85 ?_
            refine lv_bipush (v := 74) hx hb dX9_fixes_88 (by decide) ?_
            refine lv_bipush (v := 10) hx hb dX9_fixes_90 (by decide) ?_
            refine lv_iload_n hx hb dX9_fixes_92 rfl (lv_at hl 2 rfl) ?_
            refine lv_imul hx hb dX9_fixes_93 ?_
            refine lv_iadd hx hb dX9_fixes_94 ?_
            refine lv_bipush (v := 7) hx hb dX9_fixes_95 (by decide) ?_
            refine lv_iadd hx hb dX9_fixes_97 ?_
            refine lv_iload hx hb dX9_fixes_98 (lv_at hl 5 rfl) ?_
            refine va_iast hx hb hK hP hD hS 1 0 rfl rfl (ix_pl ((as_of (hk2.trans (bi_o c7)) ho.1 ho.2.1).2) (vp_d rfl)) dX9_fixes_100 (fun H locs hP hD hS => ?_)
            have hP : va_P D vwCl [(o, .inr (7, [.ref q1, .ref q2, .ref q3, .int st, .ref q4, .int ln, .int ps, .int (bi fm), .int rs, .ref q5])), (q1, .inl (cI, 314, .inl (upd (upd u_11 ((74 + (10 * address)) + 6).toNatClampNeg (day + 1)) ((74 + (10 * address)) + 7).toNatClampNeg then_))), (q2, .inl (cI, 314, .inl Bg)), (q3, .inl (cI, 1256, .inl Pa)), (q4, .inl (cI, 80, .inl Tx)), (q5, .inl (cI, 5, .inl Nu))] H := hP
            have hD : va_D Fr [(o, .inr (7, [.ref q1, .ref q2, .ref q3, .int st, .ref q4, .int ln, .int ps, .int (bi fm), .int rs, .ref q5])), (q1, .inl (cI, 314, .inl (upd (upd u_11 ((74 + (10 * address)) + 6).toNatClampNeg (day + 1)) ((74 + (10 * address)) + 7).toNatClampNeg then_))), (q2, .inl (cI, 314, .inl Bg)), (q3, .inl (cI, 1256, .inl Pa)), (q4, .inl (cI, 80, .inl Tx)), (q5, .inl (cI, 5, .inl Nu))] := hD
            refine lv_aload_n hx hb dX9_fixes_101 rfl (lv_at hl 0 rfl) ?_
            refine callVi (As := []) (rest := []) (mX9_appointments l D cI cC cS _ o q1 q2 q3 q4 q5 (upd (upd u_11 ((74 + (10 * address)) + 6).toNatClampNeg (day + 1)) ((74 + (10 * address)) + 7).toNatClampNeg then_) Bg Pa Tx Nu st ln ps fm rs (by rw [un_pl ((as_of (hk2.trans (bi_o c7)) ho.1 ho.2.1).2) (vp_d rfl) (by decide), un_pl ((as_of (hk2.trans (bi_o c7)) ho.1 ho.2.1).2) (vp_d rfl) (by decide)]; exact (hk11 ▸ counts_ok ((as_of (hk2.trans (bi_o c7)) ho.1 ho.2.1).1) ((as_of (hk2.trans (bi_o c7)) ho.1 ho.2.1).2) ho).1)) ⟨hx, hb, hml, hown, hts⟩ (cwV 0 hts gX9_fixes_X9_appointments rfl rfl rfl (by decide +kernel) ⟨Nat.le_of_ble_eq_true rfl, Nat.le_of_ble_eq_true rfl⟩) X0_blind (fun _ _ _ => trivial) hP hK hD hS hA hl [0, 1, 2, 3, 4, 5] rfl rfl 0 7 rfl rfl rfl rfl rfl (Nat.le_of_ble_eq_true rfl) dX9_fixes_102 ⟨Nat.zero_le _, Nat.zero_le _⟩ (fun _ => rfl) (fun u_ H locs hk13 hP hD hS => ?_)
            obtain ⟨r_13, e_r_13⟩ : ∃ z, z = u_ := ⟨_, rfl⟩
            subst e_r_13
            have hP : va_P D vwCl [(o, .inr (7, [.ref q1, .ref q2, .ref q3, .int st, .ref q4, .int ln, .int ps, .int (bi fm), .int rs, .ref q5])), (q1, .inl (cI, 314, .inl (upd (upd u_11 ((74 + (10 * address)) + 6).toNatClampNeg (day + 1)) ((74 + (10 * address)) + 7).toNatClampNeg then_))), (q2, .inl (cI, 314, .inl Bg)), (q3, .inl (cI, 1256, .inl Pa)), (q4, .inl (cI, 80, .inl Tx)), (q5, .inl (cI, 5, .inl Nu))] H := hP
            have hD : va_D Fr [(o, .inr (7, [.ref q1, .ref q2, .ref q3, .int st, .ref q4, .int ln, .int ps, .int (bi fm), .int rs, .ref q5])), (q1, .inl (cI, 314, .inl (upd (upd u_11 ((74 + (10 * address)) + 6).toNatClampNeg (day + 1)) ((74 + (10 * address)) + 7).toNatClampNeg then_))), (q2, .inl (cI, 314, .inl Bg)), (q3, .inl (cI, 1256, .inl Pa)), (q4, .inl (cI, 80, .inl Tx)), (q5, .inl (cI, 5, .inl Nu))] := hD
            refine W.eq (g2 := F0 m 105 ls [.int r_13]) rfl ?_
            exact endI hx hb hr hlk hP hK hD hS dX9_fixes_105 (r_13, upd (upd u_11 ((74 + (10 * address)) + 6).toNatClampNeg (day + 1)) ((74 + (10 * address)) + 7).toNatClampNeg then_) rfl ⟨(bd1_e hk2).trans ((if_pos (bi_o c7)).trans ((bd1_e hk4).trans ((if_pos (bi_o c19)).trans ((bd1_e hk6).trans ((if_pos (bi_o c29)).trans ((bd1_e hk8).trans ((if_pos (bi_o c41)).trans ((if_pos c52).trans ((bd1_e hk11).trans ((bd1_e hk13).trans rfl)))))))))), rfl⟩
          · refine lv_bipush (v := (-2)) hx hb dX9_fixes_55 (by decide) ?_
            exact endI hx hb hr hlk hP hK hD hS dX9_fixes_57 ((-2), S) rfl ⟨(bd1_e hk2).trans ((if_pos (bi_o c7)).trans ((bd1_e hk4).trans ((if_pos (bi_o c19)).trans ((bd1_e hk6).trans ((if_pos (bi_o c29)).trans ((bd1_e hk8).trans ((if_pos (bi_o c41)).trans ((if_neg c52).trans rfl)))))))), rfl⟩
      · refine lv_iconst (v := (-1)) hx hb dX9_fixes_32 (by decide) ?_
        exact endI hx hb hr hlk hP hK hD hS dX9_fixes_33 ((-1), S) rfl ⟨(bd1_e hk2).trans ((if_pos (bi_o c7)).trans ((bd1_e hk4).trans ((if_pos (bi_o c19)).trans ((bd1_e hk6).trans ((if_neg (bi_z c29)).trans rfl))))), rfl⟩


/-- the value of X9_address, path by path -/
def fX9_address (S : Nat → Int32) (Bg : Nat → Int32) (Pa : Nat → Int32) (st : Int32) (area : Int32) : Int32 × (Nat → Int32) × (Nat → Int32) × (Nat → Int32) × Int32 :=
  bd1 (fX9_begins S Bg) (fun (u_3 : Nat → Int32) => bd2 (fX9_adds S area) (fun (r_5 : Int32) (u_6 : Nat → Int32) => bd3 (fX9_acted u_3 Pa st r_5) (fun (r_8 : Int32) (u_9 : Nat → Int32) (u_10 : Int32) => (r_8, u_6, u_3, u_9, u_10))))

set_option maxHeartbeats 4000000 in
set_option maxRecDepth 100000 in
/-- X9_address -/
theorem mX9_address (l : Launch) (D : va_G) (cI cC cS : ClassId) (sz : Nat) (o : Nat) (q1 : Nat) (q2 : Nat) (q3 : Nat) (q4 : Nat) (q5 : Nat) (S : Nat → Int32) (Bg : Nat → Int32) (Pa : Nat → Int32) (Tx : Nat → Int32) (Nu : Nat → Int32) (st : Int32) (ln : Int32) (ps : Int32) (fm : Bool) (rs : Int32) (area : Int32) (ho : okS S) (ht : vp_in st 5) : Met l yX9_address wsX9_address ({ frames := 2, cells := 0, slots := 0, locals := 43 } : Jvm.Room) (va_Pc [.ref o, .int area] (wPre D (TY cI cC cS) [(o, .inr (7, [.ref q1, .ref q2, .ref q3, .int st, .ref q4, .int ln, .int ps, .int (bi fm), .int rs, .ref q5])), (q1, .inl (cI, 314, .inl S)), (q2, .inl (cI, 314, .inl Bg)), (q3, .inl (cI, 1256, .inl Pa)), (q4, .inl (cI, 80, .inl Tx)), (q5, .inl (cI, 5, .inl Nu))] sz X0)) (qI D (TY cI cC cS) (fun (r : Int32) (u : Int32 × (Nat → Int32) × (Nat → Int32) × (Nat → Int32) × Int32) => fX9_address S Bg Pa st area = u ∧ r = u.1) (fun u => [(o, .inr (7, [.ref q1, .ref q2, .ref q3, .int u.2.2.2.2, .ref q4, .int ln, .int ps, .int (bi fm), .int rs, .ref q5])), (q1, .inl (cI, 314, .inl u.2.1)), (q2, .inl (cI, 314, .inl u.2.2.1)), (q3, .inl (cI, 1256, .inl u.2.2.2.1)), (q4, .inl (cI, 80, .inl Tx)), (q5, .inl (cI, 5, .inl Nu))]) (va_A [(o, .inr (7, [.ref q1, .ref q2, .ref q3, .int st, .ref q4, .int ln, .int ps, .int (bi fm), .int rs, .ref q5])), (q1, .inl (cI, 314, .inl S)), (q2, .inl (cI, 314, .inl Bg)), (q3, .inl (cI, 1256, .inl Pa)), (q4, .inl (cI, 80, .inl Tx)), (q5, .inl (cI, 5, .inl Nu))] sz)) 0 0 (va_A [(o, .inr (7, [.ref q1, .ref q2, .ref q3, .int st, .ref q4, .int ln, .int ps, .int (bi fm), .int rs, .ref q5])), (q1, .inl (cI, 314, .inl S)), (q2, .inl (cI, 314, .inl Bg)), (q3, .inl (cI, 1256, .inl Pa)), (q4, .inl (cI, 80, .inl Tx)), (q5, .inl (cI, 5, .inl Nu))] sz) := by
  refine mkM (fun Fr => qI D (TY cI cC cS) (fun (r : Int32) (u : Int32 × (Nat → Int32) × (Nat → Int32) × (Nat → Int32) × Int32) => fX9_address S Bg Pa st area = u ∧ r = u.1) (fun u => [(o, .inr (7, [.ref q1, .ref q2, .ref q3, .int u.2.2.2.2, .ref q4, .int ln, .int ps, .int (bi fm), .int rs, .ref q5])), (q1, .inl (cI, 314, .inl u.2.1)), (q2, .inl (cI, 314, .inl u.2.2.1)), (q3, .inl (cI, 1256, .inl u.2.2.2.1)), (q4, .inl (cI, 80, .inl Tx)), (q5, .inl (cI, 5, .inl Nu))]) Fr) (cc := cX9_address) (maxL := 2) (ret := (some .int)) (own := RX9) (lv := [(0, .ref o), (1, .int area)]) (by decide) rfl rfl (Nat.le_of_ble_eq_true rfl) rfl ?_
  intro p e s m below meth c Fr ls hx hb hr hts hown hml hlk hin hP hK hD hS hA hAe hsz hX hl
  refine lv_aload_n hx hb dX9_address_0 rfl (lv_at hl 0 rfl) ?_
  refine callVv (As := []) (rest := []) (mX9_begins l D cI cC cS _ o q1 q2 q3 q4 q5 S Bg Pa Tx Nu st ln ps fm rs) ⟨hx, hb, hml, hown, hts⟩ (cwV 0 hts gX9_address_X9_begins rfl rfl rfl (by decide +kernel) ⟨Nat.le_of_ble_eq_true rfl, Nat.le_of_ble_eq_true rfl⟩) X0_blind (fun _ _ _ => trivial) hP hK hD hS hA hl [0, 1, 2, 3, 4, 5] rfl rfl 0 7 rfl rfl rfl rfl rfl (Nat.le_of_ble_eq_true rfl) dX9_address_1 ⟨Nat.zero_le _, Nat.zero_le _⟩ (fun _ => rfl) (fun u_ H locs hk3 hP hD hS => ?_)
  obtain ⟨u_3, e_u_3⟩ : ∃ z, z = u_ := ⟨_, rfl⟩
  subst e_u_3
  have hP : va_P D vwCl [(o, .inr (7, [.ref q1, .ref q2, .ref q3, .int st, .ref q4, .int ln, .int ps, .int (bi fm), .int rs, .ref q5])), (q1, .inl (cI, 314, .inl S)), (q2, .inl (cI, 314, .inl u_3)), (q3, .inl (cI, 1256, .inl Pa)), (q4, .inl (cI, 80, .inl Tx)), (q5, .inl (cI, 5, .inl Nu))] H := hP
  have hD : va_D Fr [(o, .inr (7, [.ref q1, .ref q2, .ref q3, .int st, .ref q4, .int ln, .int ps, .int (bi fm), .int rs, .ref q5])), (q1, .inl (cI, 314, .inl S)), (q2, .inl (cI, 314, .inl u_3)), (q3, .inl (cI, 1256, .inl Pa)), (q4, .inl (cI, 80, .inl Tx)), (q5, .inl (cI, 5, .inl Nu))] := hD
  refine W.eq (g2 := F0 m 4 ls []) rfl ?_
  refine lv_aload_n hx hb dX9_address_4 rfl (lv_at hl 0 rfl) ?_
  refine lv_aload_n hx hb dX9_address_5 rfl (lv_at hl 0 rfl) ?_
  refine lv_iload_n hx hb dX9_address_6 rfl (lv_at hl 1 rfl) ?_
  refine callVi (As := [.int area]) (rest := [.ref o]) (mX9_adds l D cI cC cS _ o q1 q2 q3 q4 q5 S u_3 Pa Tx Nu st ln ps fm rs area ho.1) ⟨hx, hb, hml, hown, hts⟩ (cwV 1 hts gX9_address_X9_adds rfl rfl rfl (by decide +kernel) ⟨Nat.le_of_ble_eq_true rfl, Nat.le_of_ble_eq_true rfl⟩) X0_blind (fun _ _ _ => trivial) hP hK hD hS hA hl [0, 1, 2, 3, 4, 5] rfl rfl 0 7 rfl rfl rfl rfl rfl (Nat.le_of_ble_eq_true rfl) dX9_address_7 ⟨Nat.zero_le _, Nat.zero_le _⟩ (fun _ => rfl) (fun u_ H locs hk6 hP hD hS => ?_)
  obtain ⟨r_5, u_6⟩ := u_
  have hP : va_P D vwCl [(o, .inr (7, [.ref q1, .ref q2, .ref q3, .int st, .ref q4, .int ln, .int ps, .int (bi fm), .int rs, .ref q5])), (q1, .inl (cI, 314, .inl u_6)), (q2, .inl (cI, 314, .inl u_3)), (q3, .inl (cI, 1256, .inl Pa)), (q4, .inl (cI, 80, .inl Tx)), (q5, .inl (cI, 5, .inl Nu))] H := hP
  have hD : va_D Fr [(o, .inr (7, [.ref q1, .ref q2, .ref q3, .int st, .ref q4, .int ln, .int ps, .int (bi fm), .int rs, .ref q5])), (q1, .inl (cI, 314, .inl u_6)), (q2, .inl (cI, 314, .inl u_3)), (q3, .inl (cI, 1256, .inl Pa)), (q4, .inl (cI, 80, .inl Tx)), (q5, .inl (cI, 5, .inl Nu))] := hD
  refine W.eq (g2 := F0 m 10 ls [.int r_5, .ref o]) rfl ?_
  refine callVi (As := [.int r_5]) (rest := []) (mX9_acted l D cI cC cS _ o q1 q2 q3 q4 q5 u_6 u_3 Pa Tx Nu st ln ps fm rs r_5 ht) ⟨hx, hb, hml, hown, hts⟩ (cwV 1 hts gX9_address_X9_acted rfl rfl rfl (by decide +kernel) ⟨Nat.le_of_ble_eq_true rfl, Nat.le_of_ble_eq_true rfl⟩) X0_blind (fun _ _ _ => trivial) hP hK hD hS hA hl [0, 1, 2, 3, 4, 5] rfl rfl 0 7 rfl rfl rfl rfl rfl (Nat.le_of_ble_eq_true rfl) dX9_address_10 ⟨Nat.zero_le _, Nat.zero_le _⟩ (fun _ => rfl) (fun u_ H locs hk10 hP hD hS => ?_)
  obtain ⟨r_8, u_9, u_10⟩ := u_
  have hP : va_P D vwCl [(o, .inr (7, [.ref q1, .ref q2, .ref q3, .int u_10, .ref q4, .int ln, .int ps, .int (bi fm), .int rs, .ref q5])), (q1, .inl (cI, 314, .inl u_6)), (q2, .inl (cI, 314, .inl u_3)), (q3, .inl (cI, 1256, .inl u_9)), (q4, .inl (cI, 80, .inl Tx)), (q5, .inl (cI, 5, .inl Nu))] H := hP
  have hD : va_D Fr [(o, .inr (7, [.ref q1, .ref q2, .ref q3, .int u_10, .ref q4, .int ln, .int ps, .int (bi fm), .int rs, .ref q5])), (q1, .inl (cI, 314, .inl u_6)), (q2, .inl (cI, 314, .inl u_3)), (q3, .inl (cI, 1256, .inl u_9)), (q4, .inl (cI, 80, .inl Tx)), (q5, .inl (cI, 5, .inl Nu))] := hD
  refine W.eq (g2 := F0 m 13 ls [.int r_8]) rfl ?_
  exact endI hx hb hr hlk hP hK hD hS dX9_address_13 (r_8, u_6, u_3, u_9, u_10) rfl ⟨(bd1_e hk3).trans ((bd2_e hk6).trans ((bd3_e hk10).trans rfl)), rfl⟩


/-- the value of X9_interviewer, path by path -/
def fX9_interviewer (S : Nat → Int32) (Bg : Nat → Int32) (Pa : Nat → Int32) (st : Int32) (area : Int32) (load : Int32) : Int32 × (Nat → Int32) × (Nat → Int32) × (Nat → Int32) × Int32 :=
  bd1 (fX9_begins S Bg) (fun (u_3 : Nat → Int32) => bd2 (fX9_comes S area load) (fun (r_5 : Int32) (u_6 : Nat → Int32) => bd3 (fX9_acted u_3 Pa st r_5) (fun (r_8 : Int32) (u_9 : Nat → Int32) (u_10 : Int32) => (r_8, u_6, u_3, u_9, u_10))))

set_option maxHeartbeats 4000000 in
set_option maxRecDepth 100000 in
/-- X9_interviewer -/
theorem mX9_interviewer (l : Launch) (D : va_G) (cI cC cS : ClassId) (sz : Nat) (o : Nat) (q1 : Nat) (q2 : Nat) (q3 : Nat) (q4 : Nat) (q5 : Nat) (S : Nat → Int32) (Bg : Nat → Int32) (Pa : Nat → Int32) (Tx : Nat → Int32) (Nu : Nat → Int32) (st : Int32) (ln : Int32) (ps : Int32) (fm : Bool) (rs : Int32) (area : Int32) (load : Int32) (ho : okS S) (ht : vp_in st 5) : Met l yX9_interviewer wsX9_interviewer ({ frames := 2, cells := 0, slots := 0, locals := 44 } : Jvm.Room) (va_Pc [.ref o, .int area, .int load] (wPre D (TY cI cC cS) [(o, .inr (7, [.ref q1, .ref q2, .ref q3, .int st, .ref q4, .int ln, .int ps, .int (bi fm), .int rs, .ref q5])), (q1, .inl (cI, 314, .inl S)), (q2, .inl (cI, 314, .inl Bg)), (q3, .inl (cI, 1256, .inl Pa)), (q4, .inl (cI, 80, .inl Tx)), (q5, .inl (cI, 5, .inl Nu))] sz X0)) (qI D (TY cI cC cS) (fun (r : Int32) (u : Int32 × (Nat → Int32) × (Nat → Int32) × (Nat → Int32) × Int32) => fX9_interviewer S Bg Pa st area load = u ∧ r = u.1) (fun u => [(o, .inr (7, [.ref q1, .ref q2, .ref q3, .int u.2.2.2.2, .ref q4, .int ln, .int ps, .int (bi fm), .int rs, .ref q5])), (q1, .inl (cI, 314, .inl u.2.1)), (q2, .inl (cI, 314, .inl u.2.2.1)), (q3, .inl (cI, 1256, .inl u.2.2.2.1)), (q4, .inl (cI, 80, .inl Tx)), (q5, .inl (cI, 5, .inl Nu))]) (va_A [(o, .inr (7, [.ref q1, .ref q2, .ref q3, .int st, .ref q4, .int ln, .int ps, .int (bi fm), .int rs, .ref q5])), (q1, .inl (cI, 314, .inl S)), (q2, .inl (cI, 314, .inl Bg)), (q3, .inl (cI, 1256, .inl Pa)), (q4, .inl (cI, 80, .inl Tx)), (q5, .inl (cI, 5, .inl Nu))] sz)) 0 0 (va_A [(o, .inr (7, [.ref q1, .ref q2, .ref q3, .int st, .ref q4, .int ln, .int ps, .int (bi fm), .int rs, .ref q5])), (q1, .inl (cI, 314, .inl S)), (q2, .inl (cI, 314, .inl Bg)), (q3, .inl (cI, 1256, .inl Pa)), (q4, .inl (cI, 80, .inl Tx)), (q5, .inl (cI, 5, .inl Nu))] sz) := by
  refine mkM (fun Fr => qI D (TY cI cC cS) (fun (r : Int32) (u : Int32 × (Nat → Int32) × (Nat → Int32) × (Nat → Int32) × Int32) => fX9_interviewer S Bg Pa st area load = u ∧ r = u.1) (fun u => [(o, .inr (7, [.ref q1, .ref q2, .ref q3, .int u.2.2.2.2, .ref q4, .int ln, .int ps, .int (bi fm), .int rs, .ref q5])), (q1, .inl (cI, 314, .inl u.2.1)), (q2, .inl (cI, 314, .inl u.2.2.1)), (q3, .inl (cI, 1256, .inl u.2.2.2.1)), (q4, .inl (cI, 80, .inl Tx)), (q5, .inl (cI, 5, .inl Nu))]) Fr) (cc := cX9_interviewer) (maxL := 3) (ret := (some .int)) (own := RX9) (lv := [(0, .ref o), (1, .int area), (2, .int load)]) (by decide) rfl rfl (Nat.le_of_ble_eq_true rfl) rfl ?_
  intro p e s m below meth c Fr ls hx hb hr hts hown hml hlk hin hP hK hD hS hA hAe hsz hX hl
  refine lv_aload_n hx hb dX9_interviewer_0 rfl (lv_at hl 0 rfl) ?_
  refine callVv (As := []) (rest := []) (mX9_begins l D cI cC cS _ o q1 q2 q3 q4 q5 S Bg Pa Tx Nu st ln ps fm rs) ⟨hx, hb, hml, hown, hts⟩ (cwV 0 hts gX9_interviewer_X9_begins rfl rfl rfl (by decide +kernel) ⟨Nat.le_of_ble_eq_true rfl, Nat.le_of_ble_eq_true rfl⟩) X0_blind (fun _ _ _ => trivial) hP hK hD hS hA hl [0, 1, 2, 3, 4, 5] rfl rfl 0 7 rfl rfl rfl rfl rfl (Nat.le_of_ble_eq_true rfl) dX9_interviewer_1 ⟨Nat.zero_le _, Nat.zero_le _⟩ (fun _ => rfl) (fun u_ H locs hk3 hP hD hS => ?_)
  obtain ⟨u_3, e_u_3⟩ : ∃ z, z = u_ := ⟨_, rfl⟩
  subst e_u_3
  have hP : va_P D vwCl [(o, .inr (7, [.ref q1, .ref q2, .ref q3, .int st, .ref q4, .int ln, .int ps, .int (bi fm), .int rs, .ref q5])), (q1, .inl (cI, 314, .inl S)), (q2, .inl (cI, 314, .inl u_3)), (q3, .inl (cI, 1256, .inl Pa)), (q4, .inl (cI, 80, .inl Tx)), (q5, .inl (cI, 5, .inl Nu))] H := hP
  have hD : va_D Fr [(o, .inr (7, [.ref q1, .ref q2, .ref q3, .int st, .ref q4, .int ln, .int ps, .int (bi fm), .int rs, .ref q5])), (q1, .inl (cI, 314, .inl S)), (q2, .inl (cI, 314, .inl u_3)), (q3, .inl (cI, 1256, .inl Pa)), (q4, .inl (cI, 80, .inl Tx)), (q5, .inl (cI, 5, .inl Nu))] := hD
  refine W.eq (g2 := F0 m 4 ls []) rfl ?_
  refine lv_aload_n hx hb dX9_interviewer_4 rfl (lv_at hl 0 rfl) ?_
  refine lv_aload_n hx hb dX9_interviewer_5 rfl (lv_at hl 0 rfl) ?_
  refine lv_iload_n hx hb dX9_interviewer_6 rfl (lv_at hl 1 rfl) ?_
  refine lv_iload_n hx hb dX9_interviewer_7 rfl (lv_at hl 2 rfl) ?_
  refine callVi (As := [.int area, .int load]) (rest := [.ref o]) (mX9_comes l D cI cC cS _ o q1 q2 q3 q4 q5 S u_3 Pa Tx Nu st ln ps fm rs area load ho.2.1) ⟨hx, hb, hml, hown, hts⟩ (cwV 2 hts gX9_interviewer_X9_comes rfl rfl rfl (by decide +kernel) ⟨Nat.le_of_ble_eq_true rfl, Nat.le_of_ble_eq_true rfl⟩) X0_blind (fun _ _ _ => trivial) hP hK hD hS hA hl [0, 1, 2, 3, 4, 5] rfl rfl 0 7 rfl rfl rfl rfl rfl (Nat.le_of_ble_eq_true rfl) dX9_interviewer_8 ⟨Nat.zero_le _, Nat.zero_le _⟩ (fun _ => rfl) (fun u_ H locs hk6 hP hD hS => ?_)
  obtain ⟨r_5, u_6⟩ := u_
  have hP : va_P D vwCl [(o, .inr (7, [.ref q1, .ref q2, .ref q3, .int st, .ref q4, .int ln, .int ps, .int (bi fm), .int rs, .ref q5])), (q1, .inl (cI, 314, .inl u_6)), (q2, .inl (cI, 314, .inl u_3)), (q3, .inl (cI, 1256, .inl Pa)), (q4, .inl (cI, 80, .inl Tx)), (q5, .inl (cI, 5, .inl Nu))] H := hP
  have hD : va_D Fr [(o, .inr (7, [.ref q1, .ref q2, .ref q3, .int st, .ref q4, .int ln, .int ps, .int (bi fm), .int rs, .ref q5])), (q1, .inl (cI, 314, .inl u_6)), (q2, .inl (cI, 314, .inl u_3)), (q3, .inl (cI, 1256, .inl Pa)), (q4, .inl (cI, 80, .inl Tx)), (q5, .inl (cI, 5, .inl Nu))] := hD
  refine W.eq (g2 := F0 m 11 ls [.int r_5, .ref o]) rfl ?_
  refine callVi (As := [.int r_5]) (rest := []) (mX9_acted l D cI cC cS _ o q1 q2 q3 q4 q5 u_6 u_3 Pa Tx Nu st ln ps fm rs r_5 ht) ⟨hx, hb, hml, hown, hts⟩ (cwV 1 hts gX9_interviewer_X9_acted rfl rfl rfl (by decide +kernel) ⟨Nat.le_of_ble_eq_true rfl, Nat.le_of_ble_eq_true rfl⟩) X0_blind (fun _ _ _ => trivial) hP hK hD hS hA hl [0, 1, 2, 3, 4, 5] rfl rfl 0 7 rfl rfl rfl rfl rfl (Nat.le_of_ble_eq_true rfl) dX9_interviewer_11 ⟨Nat.zero_le _, Nat.zero_le _⟩ (fun _ => rfl) (fun u_ H locs hk10 hP hD hS => ?_)
  obtain ⟨r_8, u_9, u_10⟩ := u_
  have hP : va_P D vwCl [(o, .inr (7, [.ref q1, .ref q2, .ref q3, .int u_10, .ref q4, .int ln, .int ps, .int (bi fm), .int rs, .ref q5])), (q1, .inl (cI, 314, .inl u_6)), (q2, .inl (cI, 314, .inl u_3)), (q3, .inl (cI, 1256, .inl u_9)), (q4, .inl (cI, 80, .inl Tx)), (q5, .inl (cI, 5, .inl Nu))] H := hP
  have hD : va_D Fr [(o, .inr (7, [.ref q1, .ref q2, .ref q3, .int u_10, .ref q4, .int ln, .int ps, .int (bi fm), .int rs, .ref q5])), (q1, .inl (cI, 314, .inl u_6)), (q2, .inl (cI, 314, .inl u_3)), (q3, .inl (cI, 1256, .inl u_9)), (q4, .inl (cI, 80, .inl Tx)), (q5, .inl (cI, 5, .inl Nu))] := hD
  refine W.eq (g2 := F0 m 14 ls [.int r_8]) rfl ?_
  exact endI hx hb hr hlk hP hK hD hS dX9_interviewer_14 (r_8, u_6, u_3, u_9, u_10) rfl ⟨(bd1_e hk3).trans ((bd2_e hk6).trans ((bd3_e hk10).trans rfl)), rfl⟩


/-- the value of X9_quota, path by path -/
def fX9_quota (S : Nat → Int32) (Bg : Nat → Int32) (Pa : Nat → Int32) (st : Int32) (area : Int32) (group : Int32) (many : Int32) : Int32 × (Nat → Int32) × (Nat → Int32) × (Nat → Int32) × Int32 :=
  bd1 (fX9_begins S Bg) (fun (u_3 : Nat → Int32) => bd2 (fX9_limits S area group many) (fun (r_5 : Int32) (u_6 : Nat → Int32) => bd3 (fX9_acted u_3 Pa st r_5) (fun (r_8 : Int32) (u_9 : Nat → Int32) (u_10 : Int32) => (r_8, u_6, u_3, u_9, u_10))))

set_option maxHeartbeats 4000000 in
set_option maxRecDepth 100000 in
/-- X9_quota -/
theorem mX9_quota (l : Launch) (D : va_G) (cI cC cS : ClassId) (sz : Nat) (o : Nat) (q1 : Nat) (q2 : Nat) (q3 : Nat) (q4 : Nat) (q5 : Nat) (S : Nat → Int32) (Bg : Nat → Int32) (Pa : Nat → Int32) (Tx : Nat → Int32) (Nu : Nat → Int32) (st : Int32) (ln : Int32) (ps : Int32) (fm : Bool) (rs : Int32) (area : Int32) (group : Int32) (many : Int32) (ho : okS S) (ht : vp_in st 5) : Met l yX9_quota wsX9_quota ({ frames := 3, cells := 0, slots := 0, locals := 66 } : Jvm.Room) (va_Pc [.ref o, .int area, .int group, .int many] (wPre D (TY cI cC cS) [(o, .inr (7, [.ref q1, .ref q2, .ref q3, .int st, .ref q4, .int ln, .int ps, .int (bi fm), .int rs, .ref q5])), (q1, .inl (cI, 314, .inl S)), (q2, .inl (cI, 314, .inl Bg)), (q3, .inl (cI, 1256, .inl Pa)), (q4, .inl (cI, 80, .inl Tx)), (q5, .inl (cI, 5, .inl Nu))] sz X0)) (qI D (TY cI cC cS) (fun (r : Int32) (u : Int32 × (Nat → Int32) × (Nat → Int32) × (Nat → Int32) × Int32) => fX9_quota S Bg Pa st area group many = u ∧ r = u.1) (fun u => [(o, .inr (7, [.ref q1, .ref q2, .ref q3, .int u.2.2.2.2, .ref q4, .int ln, .int ps, .int (bi fm), .int rs, .ref q5])), (q1, .inl (cI, 314, .inl u.2.1)), (q2, .inl (cI, 314, .inl u.2.2.1)), (q3, .inl (cI, 1256, .inl u.2.2.2.1)), (q4, .inl (cI, 80, .inl Tx)), (q5, .inl (cI, 5, .inl Nu))]) (va_A [(o, .inr (7, [.ref q1, .ref q2, .ref q3, .int st, .ref q4, .int ln, .int ps, .int (bi fm), .int rs, .ref q5])), (q1, .inl (cI, 314, .inl S)), (q2, .inl (cI, 314, .inl Bg)), (q3, .inl (cI, 1256, .inl Pa)), (q4, .inl (cI, 80, .inl Tx)), (q5, .inl (cI, 5, .inl Nu))] sz)) 0 0 (va_A [(o, .inr (7, [.ref q1, .ref q2, .ref q3, .int st, .ref q4, .int ln, .int ps, .int (bi fm), .int rs, .ref q5])), (q1, .inl (cI, 314, .inl S)), (q2, .inl (cI, 314, .inl Bg)), (q3, .inl (cI, 1256, .inl Pa)), (q4, .inl (cI, 80, .inl Tx)), (q5, .inl (cI, 5, .inl Nu))] sz) := by
  refine mkM (fun Fr => qI D (TY cI cC cS) (fun (r : Int32) (u : Int32 × (Nat → Int32) × (Nat → Int32) × (Nat → Int32) × Int32) => fX9_quota S Bg Pa st area group many = u ∧ r = u.1) (fun u => [(o, .inr (7, [.ref q1, .ref q2, .ref q3, .int u.2.2.2.2, .ref q4, .int ln, .int ps, .int (bi fm), .int rs, .ref q5])), (q1, .inl (cI, 314, .inl u.2.1)), (q2, .inl (cI, 314, .inl u.2.2.1)), (q3, .inl (cI, 1256, .inl u.2.2.2.1)), (q4, .inl (cI, 80, .inl Tx)), (q5, .inl (cI, 5, .inl Nu))]) Fr) (cc := cX9_quota) (maxL := 4) (ret := (some .int)) (own := RX9) (lv := [(0, .ref o), (1, .int area), (2, .int group), (3, .int many)]) (by decide) rfl rfl (Nat.le_of_ble_eq_true rfl) rfl ?_
  intro p e s m below meth c Fr ls hx hb hr hts hown hml hlk hin hP hK hD hS hA hAe hsz hX hl
  refine lv_aload_n hx hb dX9_quota_0 rfl (lv_at hl 0 rfl) ?_
  refine callVv (As := []) (rest := []) (mX9_begins l D cI cC cS _ o q1 q2 q3 q4 q5 S Bg Pa Tx Nu st ln ps fm rs) ⟨hx, hb, hml, hown, hts⟩ (cwV 0 hts gX9_quota_X9_begins rfl rfl rfl (by decide +kernel) ⟨Nat.le_of_ble_eq_true rfl, Nat.le_of_ble_eq_true rfl⟩) X0_blind (fun _ _ _ => trivial) hP hK hD hS hA hl [0, 1, 2, 3, 4, 5] rfl rfl 0 7 rfl rfl rfl rfl rfl (Nat.le_of_ble_eq_true rfl) dX9_quota_1 ⟨Nat.zero_le _, Nat.zero_le _⟩ (fun _ => rfl) (fun u_ H locs hk3 hP hD hS => ?_)
  obtain ⟨u_3, e_u_3⟩ : ∃ z, z = u_ := ⟨_, rfl⟩
  subst e_u_3
  have hP : va_P D vwCl [(o, .inr (7, [.ref q1, .ref q2, .ref q3, .int st, .ref q4, .int ln, .int ps, .int (bi fm), .int rs, .ref q5])), (q1, .inl (cI, 314, .inl S)), (q2, .inl (cI, 314, .inl u_3)), (q3, .inl (cI, 1256, .inl Pa)), (q4, .inl (cI, 80, .inl Tx)), (q5, .inl (cI, 5, .inl Nu))] H := hP
  have hD : va_D Fr [(o, .inr (7, [.ref q1, .ref q2, .ref q3, .int st, .ref q4, .int ln, .int ps, .int (bi fm), .int rs, .ref q5])), (q1, .inl (cI, 314, .inl S)), (q2, .inl (cI, 314, .inl u_3)), (q3, .inl (cI, 1256, .inl Pa)), (q4, .inl (cI, 80, .inl Tx)), (q5, .inl (cI, 5, .inl Nu))] := hD
  refine W.eq (g2 := F0 m 4 ls []) rfl ?_
  refine lv_aload_n hx hb dX9_quota_4 rfl (lv_at hl 0 rfl) ?_
  refine lv_aload_n hx hb dX9_quota_5 rfl (lv_at hl 0 rfl) ?_
  refine lv_iload_n hx hb dX9_quota_6 rfl (lv_at hl 1 rfl) ?_
  refine lv_iload_n hx hb dX9_quota_7 rfl (lv_at hl 2 rfl) ?_
  refine lv_iload_n hx hb dX9_quota_8 rfl (lv_at hl 3 rfl) ?_
  refine callVi (As := [.int area, .int group, .int many]) (rest := [.ref o]) (mX9_limits l D cI cC cS _ o q1 q2 q3 q4 q5 S u_3 Pa Tx Nu st ln ps fm rs area group many) ⟨hx, hb, hml, hown, hts⟩ (cwV 3 hts gX9_quota_X9_limits rfl rfl rfl (by decide +kernel) ⟨Nat.le_of_ble_eq_true rfl, Nat.le_of_ble_eq_true rfl⟩) X0_blind (fun _ _ _ => trivial) hP hK hD hS hA hl [0, 1, 2, 3, 4, 5] rfl rfl 0 7 rfl rfl rfl rfl rfl (Nat.le_of_ble_eq_true rfl) dX9_quota_9 ⟨Nat.zero_le _, Nat.zero_le _⟩ (fun _ => rfl) (fun u_ H locs hk6 hP hD hS => ?_)
  obtain ⟨r_5, u_6⟩ := u_
  have hP : va_P D vwCl [(o, .inr (7, [.ref q1, .ref q2, .ref q3, .int st, .ref q4, .int ln, .int ps, .int (bi fm), .int rs, .ref q5])), (q1, .inl (cI, 314, .inl u_6)), (q2, .inl (cI, 314, .inl u_3)), (q3, .inl (cI, 1256, .inl Pa)), (q4, .inl (cI, 80, .inl Tx)), (q5, .inl (cI, 5, .inl Nu))] H := hP
  have hD : va_D Fr [(o, .inr (7, [.ref q1, .ref q2, .ref q3, .int st, .ref q4, .int ln, .int ps, .int (bi fm), .int rs, .ref q5])), (q1, .inl (cI, 314, .inl u_6)), (q2, .inl (cI, 314, .inl u_3)), (q3, .inl (cI, 1256, .inl Pa)), (q4, .inl (cI, 80, .inl Tx)), (q5, .inl (cI, 5, .inl Nu))] := hD
  refine W.eq (g2 := F0 m 12 ls [.int r_5, .ref o]) rfl ?_
  refine callVi (As := [.int r_5]) (rest := []) (mX9_acted l D cI cC cS _ o q1 q2 q3 q4 q5 u_6 u_3 Pa Tx Nu st ln ps fm rs r_5 ht) ⟨hx, hb, hml, hown, hts⟩ (cwV 1 hts gX9_quota_X9_acted rfl rfl rfl (by decide +kernel) ⟨Nat.le_of_ble_eq_true rfl, Nat.le_of_ble_eq_true rfl⟩) X0_blind (fun _ _ _ => trivial) hP hK hD hS hA hl [0, 1, 2, 3, 4, 5] rfl rfl 0 7 rfl rfl rfl rfl rfl (Nat.le_of_ble_eq_true rfl) dX9_quota_12 ⟨Nat.zero_le _, Nat.zero_le _⟩ (fun _ => rfl) (fun u_ H locs hk10 hP hD hS => ?_)
  obtain ⟨r_8, u_9, u_10⟩ := u_
  have hP : va_P D vwCl [(o, .inr (7, [.ref q1, .ref q2, .ref q3, .int u_10, .ref q4, .int ln, .int ps, .int (bi fm), .int rs, .ref q5])), (q1, .inl (cI, 314, .inl u_6)), (q2, .inl (cI, 314, .inl u_3)), (q3, .inl (cI, 1256, .inl u_9)), (q4, .inl (cI, 80, .inl Tx)), (q5, .inl (cI, 5, .inl Nu))] H := hP
  have hD : va_D Fr [(o, .inr (7, [.ref q1, .ref q2, .ref q3, .int u_10, .ref q4, .int ln, .int ps, .int (bi fm), .int rs, .ref q5])), (q1, .inl (cI, 314, .inl u_6)), (q2, .inl (cI, 314, .inl u_3)), (q3, .inl (cI, 1256, .inl u_9)), (q4, .inl (cI, 80, .inl Tx)), (q5, .inl (cI, 5, .inl Nu))] := hD
  refine W.eq (g2 := F0 m 15 ls [.int r_8]) rfl ?_
  exact endI hx hb hr hlk hP hK hD hS dX9_quota_15 (r_8, u_6, u_3, u_9, u_10) rfl ⟨(bd1_e hk3).trans ((bd2_e hk6).trans ((bd3_e hk10).trans rfl)), rfl⟩


/-- the value of X9_population, path by path -/
def fX9_population (S : Nat → Int32) (Bg : Nat → Int32) (Pa : Nat → Int32) (st : Int32) (area : Int32) (group : Int32) (people : Int32) : Int32 × (Nat → Int32) × (Nat → Int32) × (Nat → Int32) × Int32 :=
  bd1 (fX9_begins S Bg) (fun (u_3 : Nat → Int32) => bd1 (fX9_isCell area group) (fun (r_5 : Bool) => (if r_5 = true then bd1 (fX9_in people 0 9999) (fun (r_11 : Bool) => (if r_11 = true then bd2 (fX9_puts S area group 2 people) (fun (r_17 : Int32) (u_18 : Nat → Int32) => bd3 (fX9_acted u_3 Pa st r_17) (fun (r_20 : Int32) (u_21 : Nat → Int32) (u_22 : Int32) => (r_20, u_18, u_3, u_21, u_22))) else bd3 (fX9_acted u_3 Pa st (-1)) (fun (r_13 : Int32) (u_14 : Nat → Int32) (u_15 : Int32) => (r_13, S, u_3, u_14, u_15)))) else bd3 (fX9_acted u_3 Pa st (-1)) (fun (r_7 : Int32) (u_8 : Nat → Int32) (u_9 : Int32) => (r_7, S, u_3, u_8, u_9)))))

set_option maxHeartbeats 4000000 in
set_option maxRecDepth 100000 in
/-- X9_population -/
theorem mX9_population (l : Launch) (D : va_G) (cI cC cS : ClassId) (sz : Nat) (o : Nat) (q1 : Nat) (q2 : Nat) (q3 : Nat) (q4 : Nat) (q5 : Nat) (S : Nat → Int32) (Bg : Nat → Int32) (Pa : Nat → Int32) (Tx : Nat → Int32) (Nu : Nat → Int32) (st : Int32) (ln : Int32) (ps : Int32) (fm : Bool) (rs : Int32) (area : Int32) (group : Int32) (people : Int32) (ho : okS S) (ht : vp_in st 5) : Met l yX9_population wsX9_population ({ frames := 2, cells := 0, slots := 0, locals := 43 } : Jvm.Room) (va_Pc [.ref o, .int area, .int group, .int people] (wPre D (TY cI cC cS) [(o, .inr (7, [.ref q1, .ref q2, .ref q3, .int st, .ref q4, .int ln, .int ps, .int (bi fm), .int rs, .ref q5])), (q1, .inl (cI, 314, .inl S)), (q2, .inl (cI, 314, .inl Bg)), (q3, .inl (cI, 1256, .inl Pa)), (q4, .inl (cI, 80, .inl Tx)), (q5, .inl (cI, 5, .inl Nu))] sz X0)) (qI D (TY cI cC cS) (fun (r : Int32) (u : Int32 × (Nat → Int32) × (Nat → Int32) × (Nat → Int32) × Int32) => fX9_population S Bg Pa st area group people = u ∧ r = u.1) (fun u => [(o, .inr (7, [.ref q1, .ref q2, .ref q3, .int u.2.2.2.2, .ref q4, .int ln, .int ps, .int (bi fm), .int rs, .ref q5])), (q1, .inl (cI, 314, .inl u.2.1)), (q2, .inl (cI, 314, .inl u.2.2.1)), (q3, .inl (cI, 1256, .inl u.2.2.2.1)), (q4, .inl (cI, 80, .inl Tx)), (q5, .inl (cI, 5, .inl Nu))]) (va_A [(o, .inr (7, [.ref q1, .ref q2, .ref q3, .int st, .ref q4, .int ln, .int ps, .int (bi fm), .int rs, .ref q5])), (q1, .inl (cI, 314, .inl S)), (q2, .inl (cI, 314, .inl Bg)), (q3, .inl (cI, 1256, .inl Pa)), (q4, .inl (cI, 80, .inl Tx)), (q5, .inl (cI, 5, .inl Nu))] sz)) 0 0 (va_A [(o, .inr (7, [.ref q1, .ref q2, .ref q3, .int st, .ref q4, .int ln, .int ps, .int (bi fm), .int rs, .ref q5])), (q1, .inl (cI, 314, .inl S)), (q2, .inl (cI, 314, .inl Bg)), (q3, .inl (cI, 1256, .inl Pa)), (q4, .inl (cI, 80, .inl Tx)), (q5, .inl (cI, 5, .inl Nu))] sz) := by
  refine mkM (fun Fr => qI D (TY cI cC cS) (fun (r : Int32) (u : Int32 × (Nat → Int32) × (Nat → Int32) × (Nat → Int32) × Int32) => fX9_population S Bg Pa st area group people = u ∧ r = u.1) (fun u => [(o, .inr (7, [.ref q1, .ref q2, .ref q3, .int u.2.2.2.2, .ref q4, .int ln, .int ps, .int (bi fm), .int rs, .ref q5])), (q1, .inl (cI, 314, .inl u.2.1)), (q2, .inl (cI, 314, .inl u.2.2.1)), (q3, .inl (cI, 1256, .inl u.2.2.2.1)), (q4, .inl (cI, 80, .inl Tx)), (q5, .inl (cI, 5, .inl Nu))]) Fr) (cc := cX9_population) (maxL := 4) (ret := (some .int)) (own := RX9) (lv := [(0, .ref o), (1, .int area), (2, .int group), (3, .int people)]) (by decide) rfl rfl (Nat.le_of_ble_eq_true rfl) rfl ?_
  intro p e s m below meth c Fr ls hx hb hr hts hown hml hlk hin hP hK hD hS hA hAe hsz hX hl
  refine lv_aload_n hx hb dX9_population_0 rfl (lv_at hl 0 rfl) ?_
  refine callVv (As := []) (rest := []) (mX9_begins l D cI cC cS _ o q1 q2 q3 q4 q5 S Bg Pa Tx Nu st ln ps fm rs) ⟨hx, hb, hml, hown, hts⟩ (cwV 0 hts gX9_population_X9_begins rfl rfl rfl (by decide +kernel) ⟨Nat.le_of_ble_eq_true rfl, Nat.le_of_ble_eq_true rfl⟩) X0_blind (fun _ _ _ => trivial) hP hK hD hS hA hl [0, 1, 2, 3, 4, 5] rfl rfl 0 7 rfl rfl rfl rfl rfl (Nat.le_of_ble_eq_true rfl) dX9_population_1 ⟨Nat.zero_le _, Nat.zero_le _⟩ (fun _ => rfl) (fun u_ H locs hk3 hP hD hS => ?_)
  obtain ⟨u_3, e_u_3⟩ : ∃ z, z = u_ := ⟨_, rfl⟩
  subst e_u_3
  have hP : va_P D vwCl [(o, .inr (7, [.ref q1, .ref q2, .ref q3, .int st, .ref q4, .int ln, .int ps, .int (bi fm), .int rs, .ref q5])), (q1, .inl (cI, 314, .inl S)), (q2, .inl (cI, 314, .inl u_3)), (q3, .inl (cI, 1256, .inl Pa)), (q4, .inl (cI, 80, .inl Tx)), (q5, .inl (cI, 5, .inl Nu))] H := hP
  have hD : va_D Fr [(o, .inr (7, [.ref q1, .ref q2, .ref q3, .int st, .ref q4, .int ln, .int ps, .int (bi fm), .int rs, .ref q5])), (q1, .inl (cI, 314, .inl S)), (q2, .inl (cI, 314, .inl u_3)), (q3, .inl (cI, 1256, .inl Pa)), (q4, .inl (cI, 80, .inl Tx)), (q5, .inl (cI, 5, .inl Nu))] := hD
  refine W.eq (g2 := F0 m 4 ls []) rfl ?_
  refine lv_aload_n hx hb dX9_population_4 rfl (lv_at hl 0 rfl) ?_
  refine lv_iload_n hx hb dX9_population_5 rfl (lv_at hl 1 rfl) ?_
  refine lv_iload_n hx hb dX9_population_6 rfl (lv_at hl 2 rfl) ?_
  refine callSi (As := [.int area, .int group]) (rest := [.ref o]) (mX9_isCell l D cI cC cS _ area group) ⟨hx, hb, hml, hown, hts⟩ (va_cwS 2 hts gX9_population_X9_isCell rfl rfl rfl (by decide +kernel) ⟨Nat.le_of_ble_eq_true rfl, Nat.le_of_ble_eq_true rfl⟩) hP hK hD hS hA hl rfl rfl (Nat.le_of_ble_eq_true rfl) dX9_population_7 ⟨Nat.zero_le _, Nat.zero_le _⟩ (fun u_ H locs hk5 hP hS => ?_)
  obtain ⟨r_5, e_r_5⟩ : ∃ z, z = u_ := ⟨_, rfl⟩
  subst e_r_5
  refine W.eq (g2 := F0 m 10 ls [.int (bi r_5), .ref o]) rfl ?_
  refine lv_if_eq (tgt := 35) hx hb dX9_population_10 (by decide) (fun c10 => ?_) (fun c10 => ?_)
  · refine lv_iconst (v := (-1)) hx hb dX9_population_35 (by decide) ?_
    refine callVi (As := [.int (-1)]) (rest := []) (mX9_acted l D cI cC cS _ o q1 q2 q3 q4 q5 S u_3 Pa Tx Nu st ln ps fm rs (-1) ht) ⟨hx, hb, hml, hown, hts⟩ (cwV 1 hts gX9_population_X9_acted rfl rfl rfl (by decide +kernel) ⟨Nat.le_of_ble_eq_true rfl, Nat.le_of_ble_eq_true rfl⟩) X0_blind (fun _ _ _ => trivial) hP hK hD hS hA hl [0, 1, 2, 3, 4, 5] rfl rfl 0 7 rfl rfl rfl rfl rfl (Nat.le_of_ble_eq_true rfl) dX9_population_36 ⟨Nat.zero_le _, Nat.zero_le _⟩ (fun _ => rfl) (fun u_ H locs hk9 hP hD hS => ?_)
    obtain ⟨r_7, u_8, u_9⟩ := u_
    have hP : va_P D vwCl [(o, .inr (7, [.ref q1, .ref q2, .ref q3, .int u_9, .ref q4, .int ln, .int ps, .int (bi fm), .int rs, .ref q5])), (q1, .inl (cI, 314, .inl S)), (q2, .inl (cI, 314, .inl u_3)), (q3, .inl (cI, 1256, .inl u_8)), (q4, .inl (cI, 80, .inl Tx)), (q5, .inl (cI, 5, .inl Nu))] H := hP
    have hD : va_D Fr [(o, .inr (7, [.ref q1, .ref q2, .ref q3, .int u_9, .ref q4, .int ln, .int ps, .int (bi fm), .int rs, .ref q5])), (q1, .inl (cI, 314, .inl S)), (q2, .inl (cI, 314, .inl u_3)), (q3, .inl (cI, 1256, .inl u_8)), (q4, .inl (cI, 80, .inl Tx)), (q5, .inl (cI, 5, .inl Nu))] := hD
    refine W.eq (g2 := F0 m 39 ls [.int r_7]) rfl ?_
    exact endI hx hb hr hlk hP hK hD hS dX9_population_39 (r_7, S, u_3, u_8, u_9) rfl ⟨(bd1_e hk3).trans ((bd1_e hk5).trans ((if_neg (bi_z c10)).trans ((bd3_e hk9).trans rfl))), rfl⟩
  · refine lv_iload_n hx hb dX9_population_13 rfl (lv_at hl 3 rfl) ?_
    refine lv_iconst (v := 0) hx hb dX9_population_14 (by decide) ?_
    refine lv_sipush (v := 9999) hx hb dX9_population_15 (by decide) ?_
    refine callSi (As := [.int people, .int 0, .int 9999]) (rest := [.ref o]) (mX9_in l D cI cC cS _ people 0 9999) ⟨hx, hb, hml, hown, hts⟩ (va_cwS 3 hts gX9_population_X9_in rfl rfl rfl (by decide +kernel) ⟨Nat.le_of_ble_eq_true rfl, Nat.le_of_ble_eq_true rfl⟩) hP hK hD hS hA hl rfl rfl (Nat.le_of_ble_eq_true rfl) dX9_population_18 ⟨Nat.zero_le _, Nat.zero_le _⟩ (fun u_ H locs hk11 hP hS => ?_)
    obtain ⟨r_11, e_r_11⟩ : ∃ z, z = u_ := ⟨_, rfl⟩
    subst e_r_11
    refine W.eq (g2 := F0 m 21 ls [.int (bi r_11), .ref o]) rfl ?_
    refine lv_if_eq (tgt := 35) hx hb dX9_population_21 (by decide) (fun c21 => ?_) (fun c21 => ?_)
    · refine lv_iconst (v := (-1)) hx hb dX9_population_35 (by decide) ?_
      refine callVi (As := [.int (-1)]) (rest := []) (mX9_acted l D cI cC cS _ o q1 q2 q3 q4 q5 S u_3 Pa Tx Nu st ln ps fm rs (-1) ht) ⟨hx, hb, hml, hown, hts⟩ (cwV 1 hts gX9_population_X9_acted rfl rfl rfl (by decide +kernel) ⟨Nat.le_of_ble_eq_true rfl, Nat.le_of_ble_eq_true rfl⟩) X0_blind (fun _ _ _ => trivial) hP hK hD hS hA hl [0, 1, 2, 3, 4, 5] rfl rfl 0 7 rfl rfl rfl rfl rfl (Nat.le_of_ble_eq_true rfl) dX9_population_36 ⟨Nat.zero_le _, Nat.zero_le _⟩ (fun _ => rfl) (fun u_ H locs hk15 hP hD hS => ?_)
      obtain ⟨r_13, u_14, u_15⟩ := u_
      have hP : va_P D vwCl [(o, .inr (7, [.ref q1, .ref q2, .ref q3, .int u_15, .ref q4, .int ln, .int ps, .int (bi fm), .int rs, .ref q5])), (q1, .inl (cI, 314, .inl S)), (q2, .inl (cI, 314, .inl u_3)), (q3, .inl (cI, 1256, .inl u_14)), (q4, .inl (cI, 80, .inl Tx)), (q5, .inl (cI, 5, .inl Nu))] H := hP
      have hD : va_D Fr [(o, .inr (7, [.ref q1, .ref q2, .ref q3, .int u_15, .ref q4, .int ln, .int ps, .int (bi fm), .int rs, .ref q5])), (q1, .inl (cI, 314, .inl S)), (q2, .inl (cI, 314, .inl u_3)), (q3, .inl (cI, 1256, .inl u_14)), (q4, .inl (cI, 80, .inl Tx)), (q5, .inl (cI, 5, .inl Nu))] := hD
      refine W.eq (g2 := F0 m 39 ls [.int r_13]) rfl ?_
      exact endI hx hb hr hlk hP hK hD hS dX9_population_39 (r_13, S, u_3, u_14, u_15) rfl ⟨(bd1_e hk3).trans ((bd1_e hk5).trans ((if_pos (bi_o c10)).trans ((bd1_e hk11).trans ((if_neg (bi_z c21)).trans ((bd3_e hk15).trans rfl))))), rfl⟩
    · refine lv_aload_n hx hb dX9_population_24 rfl (lv_at hl 0 rfl) ?_
      refine lv_iload_n hx hb dX9_population_25 rfl (lv_at hl 1 rfl) ?_
      refine lv_iload_n hx hb dX9_population_26 rfl (lv_at hl 2 rfl) ?_
      refine lv_iconst (v := 2) hx hb dX9_population_27 (by decide) ?_
      refine lv_iload_n hx hb dX9_population_28 rfl (lv_at hl 3 rfl) ?_
      refine callVi (As := [.int area, .int group, .int 2, .int people]) (rest := [.ref o]) (mX9_puts l D cI cC cS _ o q1 q2 q3 q4 q5 S u_3 Pa Tx Nu st ln ps fm rs area group 2 people ((isCell_of (hk5.trans (bi_o c10))).1) ((isCell_of (hk5.trans (bi_o c10))).2) (vp_d rfl)) ⟨hx, hb, hml, hown, hts⟩ (cwV 4 hts gX9_population_X9_puts rfl rfl rfl (by decide +kernel) ⟨Nat.le_of_ble_eq_true rfl, Nat.le_of_ble_eq_true rfl⟩) X0_blind (fun _ _ _ => trivial) hP hK hD hS hA hl [0, 1, 2, 3, 4, 5] rfl rfl 0 7 rfl rfl rfl rfl rfl (Nat.le_of_ble_eq_true rfl) dX9_population_29 ⟨Nat.zero_le _, Nat.zero_le _⟩ (fun _ => rfl) (fun u_ H locs hk18 hP hD hS => ?_)
      obtain ⟨r_17, u_18⟩ := u_
      have hP : va_P D vwCl [(o, .inr (7, [.ref q1, .ref q2, .ref q3, .int st, .ref q4, .int ln, .int ps, .int (bi fm), .int rs, .ref q5])), (q1, .inl (cI, 314, .inl u_18)), (q2, .inl (cI, 314, .inl u_3)), (q3, .inl (cI, 1256, .inl Pa)), (q4, .inl (cI, 80, .inl Tx)), (q5, .inl (cI, 5, .inl Nu))] H := hP
      have hD : va_D Fr [(o, .inr (7, [.ref q1, .ref q2, .ref q3, .int st, .ref q4, .int ln, .int ps, .int (bi fm), .int rs, .ref q5])), (q1, .inl (cI, 314, .inl u_18)), (q2, .inl (cI, 314, .inl u_3)), (q3, .inl (cI, 1256, .inl Pa)), (q4, .inl (cI, 80, .inl Tx)), (q5, .inl (cI, 5, .inl Nu))] := hD
      refine W.eq (g2 := F0 m 32 ls [.int r_17, .ref o]) rfl ?_
      refine lv_goto (tgt := 36) hx hb dX9_population_32 (by decide) ?_
      refine callVi (As := [.int r_17]) (rest := []) (mX9_acted l D cI cC cS _ o q1 q2 q3 q4 q5 u_18 u_3 Pa Tx Nu st ln ps fm rs r_17 ht) ⟨hx, hb, hml, hown, hts⟩ (cwV 1 hts gX9_population_X9_acted rfl rfl rfl (by decide +kernel) ⟨Nat.le_of_ble_eq_true rfl, Nat.le_of_ble_eq_true rfl⟩) X0_blind (fun _ _ _ => trivial) hP hK hD hS hA hl [0, 1, 2, 3, 4, 5] rfl rfl 0 7 rfl rfl rfl rfl rfl (Nat.le_of_ble_eq_true rfl) dX9_population_36 ⟨Nat.zero_le _, Nat.zero_le _⟩ (fun _ => rfl) (fun u_ H locs hk22 hP hD hS => ?_)
      obtain ⟨r_20, u_21, u_22⟩ := u_
      have hP : va_P D vwCl [(o, .inr (7, [.ref q1, .ref q2, .ref q3, .int u_22, .ref q4, .int ln, .int ps, .int (bi fm), .int rs, .ref q5])), (q1, .inl (cI, 314, .inl u_18)), (q2, .inl (cI, 314, .inl u_3)), (q3, .inl (cI, 1256, .inl u_21)), (q4, .inl (cI, 80, .inl Tx)), (q5, .inl (cI, 5, .inl Nu))] H := hP
      have hD : va_D Fr [(o, .inr (7, [.ref q1, .ref q2, .ref q3, .int u_22, .ref q4, .int ln, .int ps, .int (bi fm), .int rs, .ref q5])), (q1, .inl (cI, 314, .inl u_18)), (q2, .inl (cI, 314, .inl u_3)), (q3, .inl (cI, 1256, .inl u_21)), (q4, .inl (cI, 80, .inl Tx)), (q5, .inl (cI, 5, .inl Nu))] := hD
      refine W.eq (g2 := F0 m 39 ls [.int r_20]) rfl ?_
      exact endI hx hb hr hlk hP hK hD hS dX9_population_39 (r_20, u_18, u_3, u_21, u_22) rfl ⟨(bd1_e hk3).trans ((bd1_e hk5).trans ((if_pos (bi_o c10)).trans ((bd1_e hk11).trans ((if_pos (bi_o c21)).trans ((bd2_e hk18).trans ((bd3_e hk22).trans rfl)))))), rfl⟩


/-- the value of X9_call, path by path -/
def fX9_call (S : Nat → Int32) (Bg : Nat → Int32) (Pa : Nat → Int32) (st : Int32) (interviewer : Int32) (address : Int32) (time : Int32) (what : Int32) : Int32 × (Nat → Int32) × (Nat → Int32) × (Nat → Int32) × Int32 :=
  bd1 (fX9_begins S Bg) (fun (u_3 : Nat → Int32) => bd2 (fX9_calls S interviewer address time what) (fun (r_5 : Int32) (u_6 : Nat → Int32) => bd3 (fX9_acted u_3 Pa st r_5) (fun (r_8 : Int32) (u_9 : Nat → Int32) (u_10 : Int32) => (r_8, u_6, u_3, u_9, u_10))))

set_option maxHeartbeats 4000000 in
set_option maxRecDepth 100000 in
/-- X9_call -/
theorem mX9_call (l : Launch) (D : va_G) (cI cC cS : ClassId) (sz : Nat) (o : Nat) (q1 : Nat) (q2 : Nat) (q3 : Nat) (q4 : Nat) (q5 : Nat) (S : Nat → Int32) (Bg : Nat → Int32) (Pa : Nat → Int32) (Tx : Nat → Int32) (Nu : Nat → Int32) (st : Int32) (ln : Int32) (ps : Int32) (fm : Bool) (rs : Int32) (interviewer : Int32) (address : Int32) (time : Int32) (what : Int32) (ho : okS S) (ht : vp_in st 5) : Met l yX9_call wsX9_call ({ frames := 6, cells := 0, slots := 0, locals := 133 } : Jvm.Room) (va_Pc [.ref o, .int interviewer, .int address, .int time, .int what] (wPre D (TY cI cC cS) [(o, .inr (7, [.ref q1, .ref q2, .ref q3, .int st, .ref q4, .int ln, .int ps, .int (bi fm), .int rs, .ref q5])), (q1, .inl (cI, 314, .inl S)), (q2, .inl (cI, 314, .inl Bg)), (q3, .inl (cI, 1256, .inl Pa)), (q4, .inl (cI, 80, .inl Tx)), (q5, .inl (cI, 5, .inl Nu))] sz X0)) (qI D (TY cI cC cS) (fun (r : Int32) (u : Int32 × (Nat → Int32) × (Nat → Int32) × (Nat → Int32) × Int32) => fX9_call S Bg Pa st interviewer address time what = u ∧ r = u.1) (fun u => [(o, .inr (7, [.ref q1, .ref q2, .ref q3, .int u.2.2.2.2, .ref q4, .int ln, .int ps, .int (bi fm), .int rs, .ref q5])), (q1, .inl (cI, 314, .inl u.2.1)), (q2, .inl (cI, 314, .inl u.2.2.1)), (q3, .inl (cI, 1256, .inl u.2.2.2.1)), (q4, .inl (cI, 80, .inl Tx)), (q5, .inl (cI, 5, .inl Nu))]) (va_A [(o, .inr (7, [.ref q1, .ref q2, .ref q3, .int st, .ref q4, .int ln, .int ps, .int (bi fm), .int rs, .ref q5])), (q1, .inl (cI, 314, .inl S)), (q2, .inl (cI, 314, .inl Bg)), (q3, .inl (cI, 1256, .inl Pa)), (q4, .inl (cI, 80, .inl Tx)), (q5, .inl (cI, 5, .inl Nu))] sz)) 0 0 (va_A [(o, .inr (7, [.ref q1, .ref q2, .ref q3, .int st, .ref q4, .int ln, .int ps, .int (bi fm), .int rs, .ref q5])), (q1, .inl (cI, 314, .inl S)), (q2, .inl (cI, 314, .inl Bg)), (q3, .inl (cI, 1256, .inl Pa)), (q4, .inl (cI, 80, .inl Tx)), (q5, .inl (cI, 5, .inl Nu))] sz) := by
  refine mkM (fun Fr => qI D (TY cI cC cS) (fun (r : Int32) (u : Int32 × (Nat → Int32) × (Nat → Int32) × (Nat → Int32) × Int32) => fX9_call S Bg Pa st interviewer address time what = u ∧ r = u.1) (fun u => [(o, .inr (7, [.ref q1, .ref q2, .ref q3, .int u.2.2.2.2, .ref q4, .int ln, .int ps, .int (bi fm), .int rs, .ref q5])), (q1, .inl (cI, 314, .inl u.2.1)), (q2, .inl (cI, 314, .inl u.2.2.1)), (q3, .inl (cI, 1256, .inl u.2.2.2.1)), (q4, .inl (cI, 80, .inl Tx)), (q5, .inl (cI, 5, .inl Nu))]) Fr) (cc := cX9_call) (maxL := 5) (ret := (some .int)) (own := RX9) (lv := [(0, .ref o), (1, .int interviewer), (2, .int address), (3, .int time), (4, .int what)]) (by decide) rfl rfl (Nat.le_of_ble_eq_true rfl) rfl ?_
  intro p e s m below meth c Fr ls hx hb hr hts hown hml hlk hin hP hK hD hS hA hAe hsz hX hl
  refine lv_aload_n hx hb dX9_call_0 rfl (lv_at hl 0 rfl) ?_
  refine callVv (As := []) (rest := []) (mX9_begins l D cI cC cS _ o q1 q2 q3 q4 q5 S Bg Pa Tx Nu st ln ps fm rs) ⟨hx, hb, hml, hown, hts⟩ (cwV 0 hts gX9_call_X9_begins rfl rfl rfl (by decide +kernel) ⟨Nat.le_of_ble_eq_true rfl, Nat.le_of_ble_eq_true rfl⟩) X0_blind (fun _ _ _ => trivial) hP hK hD hS hA hl [0, 1, 2, 3, 4, 5] rfl rfl 0 7 rfl rfl rfl rfl rfl (Nat.le_of_ble_eq_true rfl) dX9_call_1 ⟨Nat.zero_le _, Nat.zero_le _⟩ (fun _ => rfl) (fun u_ H locs hk3 hP hD hS => ?_)
  obtain ⟨u_3, e_u_3⟩ : ∃ z, z = u_ := ⟨_, rfl⟩
  subst e_u_3
  have hP : va_P D vwCl [(o, .inr (7, [.ref q1, .ref q2, .ref q3, .int st, .ref q4, .int ln, .int ps, .int (bi fm), .int rs, .ref q5])), (q1, .inl (cI, 314, .inl S)), (q2, .inl (cI, 314, .inl u_3)), (q3, .inl (cI, 1256, .inl Pa)), (q4, .inl (cI, 80, .inl Tx)), (q5, .inl (cI, 5, .inl Nu))] H := hP
  have hD : va_D Fr [(o, .inr (7, [.ref q1, .ref q2, .ref q3, .int st, .ref q4, .int ln, .int ps, .int (bi fm), .int rs, .ref q5])), (q1, .inl (cI, 314, .inl S)), (q2, .inl (cI, 314, .inl u_3)), (q3, .inl (cI, 1256, .inl Pa)), (q4, .inl (cI, 80, .inl Tx)), (q5, .inl (cI, 5, .inl Nu))] := hD
  refine W.eq (g2 := F0 m 4 ls []) rfl ?_
  refine lv_aload_n hx hb dX9_call_4 rfl (lv_at hl 0 rfl) ?_
  refine lv_aload_n hx hb dX9_call_5 rfl (lv_at hl 0 rfl) ?_
  refine lv_iload_n hx hb dX9_call_6 rfl (lv_at hl 1 rfl) ?_
  refine lv_iload_n hx hb dX9_call_7 rfl (lv_at hl 2 rfl) ?_
  refine lv_iload_n hx hb dX9_call_8 rfl (lv_at hl 3 rfl) ?_
  refine lv_iload hx hb dX9_call_9 (lv_at hl 4 rfl) ?_
  refine callVi (As := [.int interviewer, .int address, .int time, .int what]) (rest := [.ref o]) (mX9_calls l D cI cC cS _ o q1 q2 q3 q4 q5 S u_3 Pa Tx Nu st ln ps fm rs interviewer address time what ho) ⟨hx, hb, hml, hown, hts⟩ (cwV 4 hts gX9_call_X9_calls rfl rfl rfl (by decide +kernel) ⟨Nat.le_of_ble_eq_true rfl, Nat.le_of_ble_eq_true rfl⟩) X0_blind (fun _ _ _ => trivial) hP hK hD hS hA hl [0, 1, 2, 3, 4, 5] rfl rfl 0 7 rfl rfl rfl rfl rfl (Nat.le_of_ble_eq_true rfl) dX9_call_11 ⟨Nat.zero_le _, Nat.zero_le _⟩ (fun _ => rfl) (fun u_ H locs hk6 hP hD hS => ?_)
  obtain ⟨r_5, u_6⟩ := u_
  have hP : va_P D vwCl [(o, .inr (7, [.ref q1, .ref q2, .ref q3, .int st, .ref q4, .int ln, .int ps, .int (bi fm), .int rs, .ref q5])), (q1, .inl (cI, 314, .inl u_6)), (q2, .inl (cI, 314, .inl u_3)), (q3, .inl (cI, 1256, .inl Pa)), (q4, .inl (cI, 80, .inl Tx)), (q5, .inl (cI, 5, .inl Nu))] H := hP
  have hD : va_D Fr [(o, .inr (7, [.ref q1, .ref q2, .ref q3, .int st, .ref q4, .int ln, .int ps, .int (bi fm), .int rs, .ref q5])), (q1, .inl (cI, 314, .inl u_6)), (q2, .inl (cI, 314, .inl u_3)), (q3, .inl (cI, 1256, .inl Pa)), (q4, .inl (cI, 80, .inl Tx)), (q5, .inl (cI, 5, .inl Nu))] := hD
  refine W.eq (g2 := F0 m 14 ls [.int r_5, .ref o]) rfl ?_
  refine callVi (As := [.int r_5]) (rest := []) (mX9_acted l D cI cC cS _ o q1 q2 q3 q4 q5 u_6 u_3 Pa Tx Nu st ln ps fm rs r_5 ht) ⟨hx, hb, hml, hown, hts⟩ (cwV 1 hts gX9_call_X9_acted rfl rfl rfl (by decide +kernel) ⟨Nat.le_of_ble_eq_true rfl, Nat.le_of_ble_eq_true rfl⟩) X0_blind (fun _ _ _ => trivial) hP hK hD hS hA hl [0, 1, 2, 3, 4, 5] rfl rfl 0 7 rfl rfl rfl rfl rfl (Nat.le_of_ble_eq_true rfl) dX9_call_14 ⟨Nat.zero_le _, Nat.zero_le _⟩ (fun _ => rfl) (fun u_ H locs hk10 hP hD hS => ?_)
  obtain ⟨r_8, u_9, u_10⟩ := u_
  have hP : va_P D vwCl [(o, .inr (7, [.ref q1, .ref q2, .ref q3, .int u_10, .ref q4, .int ln, .int ps, .int (bi fm), .int rs, .ref q5])), (q1, .inl (cI, 314, .inl u_6)), (q2, .inl (cI, 314, .inl u_3)), (q3, .inl (cI, 1256, .inl u_9)), (q4, .inl (cI, 80, .inl Tx)), (q5, .inl (cI, 5, .inl Nu))] H := hP
  have hD : va_D Fr [(o, .inr (7, [.ref q1, .ref q2, .ref q3, .int u_10, .ref q4, .int ln, .int ps, .int (bi fm), .int rs, .ref q5])), (q1, .inl (cI, 314, .inl u_6)), (q2, .inl (cI, 314, .inl u_3)), (q3, .inl (cI, 1256, .inl u_9)), (q4, .inl (cI, 80, .inl Tx)), (q5, .inl (cI, 5, .inl Nu))] := hD
  refine W.eq (g2 := F0 m 17 ls [.int r_8]) rfl ?_
  exact endI hx hb hr hlk hP hK hD hS dX9_call_17 (r_8, u_6, u_3, u_9, u_10) rfl ⟨(bd1_e hk3).trans ((bd2_e hk6).trans ((bd3_e hk10).trans rfl)), rfl⟩


/-- the value of X9_later, path by path -/
def fX9_later (S : Nat → Int32) (Bg : Nat → Int32) (Pa : Nat → Int32) (st : Int32) (interviewer : Int32) (address : Int32) (time : Int32) (day : Int32) (then_ : Int32) : Int32 × (Nat → Int32) × (Nat → Int32) × (Nat → Int32) × Int32 :=
  bd1 (fX9_begins S Bg) (fun (u_3 : Nat → Int32) => bd2 (fX9_fixes S interviewer address time day then_) (fun (r_5 : Int32) (u_6 : Nat → Int32) => bd3 (fX9_acted u_3 Pa st r_5) (fun (r_8 : Int32) (u_9 : Nat → Int32) (u_10 : Int32) => (r_8, u_6, u_3, u_9, u_10))))

set_option maxHeartbeats 4000000 in
set_option maxRecDepth 100000 in
/-- X9_later -/
theorem mX9_later (l : Launch) (D : va_G) (cI cC cS : ClassId) (sz : Nat) (o : Nat) (q1 : Nat) (q2 : Nat) (q3 : Nat) (q4 : Nat) (q5 : Nat) (S : Nat → Int32) (Bg : Nat → Int32) (Pa : Nat → Int32) (Tx : Nat → Int32) (Nu : Nat → Int32) (st : Int32) (ln : Int32) (ps : Int32) (fm : Bool) (rs : Int32) (interviewer : Int32) (address : Int32) (time : Int32) (day : Int32) (then_ : Int32) (ho : okS S) (ht : vp_in st 5) : Met l yX9_later wsX9_later ({ frames := 6, cells := 0, slots := 0, locals := 133 } : Jvm.Room) (va_Pc [.ref o, .int interviewer, .int address, .int time, .int day, .int then_] (wPre D (TY cI cC cS) [(o, .inr (7, [.ref q1, .ref q2, .ref q3, .int st, .ref q4, .int ln, .int ps, .int (bi fm), .int rs, .ref q5])), (q1, .inl (cI, 314, .inl S)), (q2, .inl (cI, 314, .inl Bg)), (q3, .inl (cI, 1256, .inl Pa)), (q4, .inl (cI, 80, .inl Tx)), (q5, .inl (cI, 5, .inl Nu))] sz X0)) (qI D (TY cI cC cS) (fun (r : Int32) (u : Int32 × (Nat → Int32) × (Nat → Int32) × (Nat → Int32) × Int32) => fX9_later S Bg Pa st interviewer address time day then_ = u ∧ r = u.1) (fun u => [(o, .inr (7, [.ref q1, .ref q2, .ref q3, .int u.2.2.2.2, .ref q4, .int ln, .int ps, .int (bi fm), .int rs, .ref q5])), (q1, .inl (cI, 314, .inl u.2.1)), (q2, .inl (cI, 314, .inl u.2.2.1)), (q3, .inl (cI, 1256, .inl u.2.2.2.1)), (q4, .inl (cI, 80, .inl Tx)), (q5, .inl (cI, 5, .inl Nu))]) (va_A [(o, .inr (7, [.ref q1, .ref q2, .ref q3, .int st, .ref q4, .int ln, .int ps, .int (bi fm), .int rs, .ref q5])), (q1, .inl (cI, 314, .inl S)), (q2, .inl (cI, 314, .inl Bg)), (q3, .inl (cI, 1256, .inl Pa)), (q4, .inl (cI, 80, .inl Tx)), (q5, .inl (cI, 5, .inl Nu))] sz)) 0 0 (va_A [(o, .inr (7, [.ref q1, .ref q2, .ref q3, .int st, .ref q4, .int ln, .int ps, .int (bi fm), .int rs, .ref q5])), (q1, .inl (cI, 314, .inl S)), (q2, .inl (cI, 314, .inl Bg)), (q3, .inl (cI, 1256, .inl Pa)), (q4, .inl (cI, 80, .inl Tx)), (q5, .inl (cI, 5, .inl Nu))] sz) := by
  refine mkM (fun Fr => qI D (TY cI cC cS) (fun (r : Int32) (u : Int32 × (Nat → Int32) × (Nat → Int32) × (Nat → Int32) × Int32) => fX9_later S Bg Pa st interviewer address time day then_ = u ∧ r = u.1) (fun u => [(o, .inr (7, [.ref q1, .ref q2, .ref q3, .int u.2.2.2.2, .ref q4, .int ln, .int ps, .int (bi fm), .int rs, .ref q5])), (q1, .inl (cI, 314, .inl u.2.1)), (q2, .inl (cI, 314, .inl u.2.2.1)), (q3, .inl (cI, 1256, .inl u.2.2.2.1)), (q4, .inl (cI, 80, .inl Tx)), (q5, .inl (cI, 5, .inl Nu))]) Fr) (cc := cX9_later) (maxL := 6) (ret := (some .int)) (own := RX9) (lv := [(0, .ref o), (1, .int interviewer), (2, .int address), (3, .int time), (4, .int day), (5, .int then_)]) (by decide) rfl rfl (Nat.le_of_ble_eq_true rfl) rfl ?_
  intro p e s m below meth c Fr ls hx hb hr hts hown hml hlk hin hP hK hD hS hA hAe hsz hX hl
  refine lv_aload_n hx hb dX9_later_0 rfl (lv_at hl 0 rfl) ?_
  refine callVv (As := []) (rest := []) (mX9_begins l D cI cC cS _ o q1 q2 q3 q4 q5 S Bg Pa Tx Nu st ln ps fm rs) ⟨hx, hb, hml, hown, hts⟩ (cwV 0 hts gX9_later_X9_begins rfl rfl rfl (by decide +kernel) ⟨Nat.le_of_ble_eq_true rfl, Nat.le_of_ble_eq_true rfl⟩) X0_blind (fun _ _ _ => trivial) hP hK hD hS hA hl [0, 1, 2, 3, 4, 5] rfl rfl 0 7 rfl rfl rfl rfl rfl (Nat.le_of_ble_eq_true rfl) dX9_later_1 ⟨Nat.zero_le _, Nat.zero_le _⟩ (fun _ => rfl) (fun u_ H locs hk3 hP hD hS => ?_)
  obtain ⟨u_3, e_u_3⟩ : ∃ z, z = u_ := ⟨_, rfl⟩
  subst e_u_3
  have hP : va_P D vwCl [(o, .inr (7, [.ref q1, .ref q2, .ref q3, .int st, .ref q4, .int ln, .int ps, .int (bi fm), .int rs, .ref q5])), (q1, .inl (cI, 314, .inl S)), (q2, .inl (cI, 314, .inl u_3)), (q3, .inl (cI, 1256, .inl Pa)), (q4, .inl (cI, 80, .inl Tx)), (q5, .inl (cI, 5, .inl Nu))] H := hP
  have hD : va_D Fr [(o, .inr (7, [.ref q1, .ref q2, .ref q3, .int st, .ref q4, .int ln, .int ps, .int (bi fm), .int rs, .ref q5])), (q1, .inl (cI, 314, .inl S)), (q2, .inl (cI, 314, .inl u_3)), (q3, .inl (cI, 1256, .inl Pa)), (q4, .inl (cI, 80, .inl Tx)), (q5, .inl (cI, 5, .inl Nu))] := hD
  refine W.eq (g2 := F0 m 4 ls []) rfl ?_
  refine lv_aload_n hx hb dX9_later_4 rfl (lv_at hl 0 rfl) ?_
  refine lv_aload_n hx hb dX9_later_5 rfl (lv_at hl 0 rfl) ?_
  refine lv_iload_n hx hb dX9_later_6 rfl (lv_at hl 1 rfl) ?_
  refine lv_iload_n hx hb dX9_later_7 rfl (lv_at hl 2 rfl) ?_
  refine lv_iload_n hx hb dX9_later_8 rfl (lv_at hl 3 rfl) ?_
  refine lv_iload hx hb dX9_later_9 (lv_at hl 4 rfl) ?_
  refine lv_iload hx hb dX9_later_11 (lv_at hl 5 rfl) ?_
  refine callVi (As := [.int interviewer, .int address, .int time, .int day, .int then_]) (rest := [.ref o]) (mX9_fixes l D cI cC cS _ o q1 q2 q3 q4 q5 S u_3 Pa Tx Nu st ln ps fm rs interviewer address time day then_ ho) ⟨hx, hb, hml, hown, hts⟩ (cwV 5 hts gX9_later_X9_fixes rfl rfl rfl (by decide +kernel) ⟨Nat.le_of_ble_eq_true rfl, Nat.le_of_ble_eq_true rfl⟩) X0_blind (fun _ _ _ => trivial) hP hK hD hS hA hl [0, 1, 2, 3, 4, 5] rfl rfl 0 7 rfl rfl rfl rfl rfl (Nat.le_of_ble_eq_true rfl) dX9_later_13 ⟨Nat.zero_le _, Nat.zero_le _⟩ (fun _ => rfl) (fun u_ H locs hk6 hP hD hS => ?_)
  obtain ⟨r_5, u_6⟩ := u_
  have hP : va_P D vwCl [(o, .inr (7, [.ref q1, .ref q2, .ref q3, .int st, .ref q4, .int ln, .int ps, .int (bi fm), .int rs, .ref q5])), (q1, .inl (cI, 314, .inl u_6)), (q2, .inl (cI, 314, .inl u_3)), (q3, .inl (cI, 1256, .inl Pa)), (q4, .inl (cI, 80, .inl Tx)), (q5, .inl (cI, 5, .inl Nu))] H := hP
  have hD : va_D Fr [(o, .inr (7, [.ref q1, .ref q2, .ref q3, .int st, .ref q4, .int ln, .int ps, .int (bi fm), .int rs, .ref q5])), (q1, .inl (cI, 314, .inl u_6)), (q2, .inl (cI, 314, .inl u_3)), (q3, .inl (cI, 1256, .inl Pa)), (q4, .inl (cI, 80, .inl Tx)), (q5, .inl (cI, 5, .inl Nu))] := hD
  refine W.eq (g2 := F0 m 16 ls [.int r_5, .ref o]) rfl ?_
  refine callVi (As := [.int r_5]) (rest := []) (mX9_acted l D cI cC cS _ o q1 q2 q3 q4 q5 u_6 u_3 Pa Tx Nu st ln ps fm rs r_5 ht) ⟨hx, hb, hml, hown, hts⟩ (cwV 1 hts gX9_later_X9_acted rfl rfl rfl (by decide +kernel) ⟨Nat.le_of_ble_eq_true rfl, Nat.le_of_ble_eq_true rfl⟩) X0_blind (fun _ _ _ => trivial) hP hK hD hS hA hl [0, 1, 2, 3, 4, 5] rfl rfl 0 7 rfl rfl rfl rfl rfl (Nat.le_of_ble_eq_true rfl) dX9_later_16 ⟨Nat.zero_le _, Nat.zero_le _⟩ (fun _ => rfl) (fun u_ H locs hk10 hP hD hS => ?_)
  obtain ⟨r_8, u_9, u_10⟩ := u_
  have hP : va_P D vwCl [(o, .inr (7, [.ref q1, .ref q2, .ref q3, .int u_10, .ref q4, .int ln, .int ps, .int (bi fm), .int rs, .ref q5])), (q1, .inl (cI, 314, .inl u_6)), (q2, .inl (cI, 314, .inl u_3)), (q3, .inl (cI, 1256, .inl u_9)), (q4, .inl (cI, 80, .inl Tx)), (q5, .inl (cI, 5, .inl Nu))] H := hP
  have hD : va_D Fr [(o, .inr (7, [.ref q1, .ref q2, .ref q3, .int u_10, .ref q4, .int ln, .int ps, .int (bi fm), .int rs, .ref q5])), (q1, .inl (cI, 314, .inl u_6)), (q2, .inl (cI, 314, .inl u_3)), (q3, .inl (cI, 1256, .inl u_9)), (q4, .inl (cI, 80, .inl Tx)), (q5, .inl (cI, 5, .inl Nu))] := hD
  refine W.eq (g2 := F0 m 19 ls [.int r_8]) rfl ?_
  exact endI hx hb hr hlk hP hK hD hS dX9_later_19 (r_8, u_6, u_3, u_9, u_10) rfl ⟨(bd1_e hk3).trans ((bd2_e hk6).trans ((bd3_e hk10).trans rfl)), rfl⟩


/-- the value of X9_pass, path by path -/
def fX9_pass (S : Nat → Int32) (Bg : Nat → Int32) (Pa : Nat → Int32) (st : Int32) (days : Int32) : Int32 × (Nat → Int32) × (Nat → Int32) × (Nat → Int32) × Int32 :=
  bd1 (fX9_begins S Bg) (fun (u_3 : Nat → Int32) => bd2 (fX9_passes S days) (fun (r_5 : Int32) (u_6 : Nat → Int32) => bd3 (fX9_acted u_3 Pa st r_5) (fun (r_8 : Int32) (u_9 : Nat → Int32) (u_10 : Int32) => (r_8, u_6, u_3, u_9, u_10))))

set_option maxHeartbeats 4000000 in
set_option maxRecDepth 100000 in
/-- X9_pass -/
theorem mX9_pass (l : Launch) (D : va_G) (cI cC cS : ClassId) (sz : Nat) (o : Nat) (q1 : Nat) (q2 : Nat) (q3 : Nat) (q4 : Nat) (q5 : Nat) (S : Nat → Int32) (Bg : Nat → Int32) (Pa : Nat → Int32) (Tx : Nat → Int32) (Nu : Nat → Int32) (st : Int32) (ln : Int32) (ps : Int32) (fm : Bool) (rs : Int32) (days : Int32) (ho : okS S) (ht : vp_in st 5) : Met l yX9_pass wsX9_pass ({ frames := 2, cells := 0, slots := 0, locals := 44 } : Jvm.Room) (va_Pc [.ref o, .int days] (wPre D (TY cI cC cS) [(o, .inr (7, [.ref q1, .ref q2, .ref q3, .int st, .ref q4, .int ln, .int ps, .int (bi fm), .int rs, .ref q5])), (q1, .inl (cI, 314, .inl S)), (q2, .inl (cI, 314, .inl Bg)), (q3, .inl (cI, 1256, .inl Pa)), (q4, .inl (cI, 80, .inl Tx)), (q5, .inl (cI, 5, .inl Nu))] sz X0)) (qI D (TY cI cC cS) (fun (r : Int32) (u : Int32 × (Nat → Int32) × (Nat → Int32) × (Nat → Int32) × Int32) => fX9_pass S Bg Pa st days = u ∧ r = u.1) (fun u => [(o, .inr (7, [.ref q1, .ref q2, .ref q3, .int u.2.2.2.2, .ref q4, .int ln, .int ps, .int (bi fm), .int rs, .ref q5])), (q1, .inl (cI, 314, .inl u.2.1)), (q2, .inl (cI, 314, .inl u.2.2.1)), (q3, .inl (cI, 1256, .inl u.2.2.2.1)), (q4, .inl (cI, 80, .inl Tx)), (q5, .inl (cI, 5, .inl Nu))]) (va_A [(o, .inr (7, [.ref q1, .ref q2, .ref q3, .int st, .ref q4, .int ln, .int ps, .int (bi fm), .int rs, .ref q5])), (q1, .inl (cI, 314, .inl S)), (q2, .inl (cI, 314, .inl Bg)), (q3, .inl (cI, 1256, .inl Pa)), (q4, .inl (cI, 80, .inl Tx)), (q5, .inl (cI, 5, .inl Nu))] sz)) 0 0 (va_A [(o, .inr (7, [.ref q1, .ref q2, .ref q3, .int st, .ref q4, .int ln, .int ps, .int (bi fm), .int rs, .ref q5])), (q1, .inl (cI, 314, .inl S)), (q2, .inl (cI, 314, .inl Bg)), (q3, .inl (cI, 1256, .inl Pa)), (q4, .inl (cI, 80, .inl Tx)), (q5, .inl (cI, 5, .inl Nu))] sz) := by
  refine mkM (fun Fr => qI D (TY cI cC cS) (fun (r : Int32) (u : Int32 × (Nat → Int32) × (Nat → Int32) × (Nat → Int32) × Int32) => fX9_pass S Bg Pa st days = u ∧ r = u.1) (fun u => [(o, .inr (7, [.ref q1, .ref q2, .ref q3, .int u.2.2.2.2, .ref q4, .int ln, .int ps, .int (bi fm), .int rs, .ref q5])), (q1, .inl (cI, 314, .inl u.2.1)), (q2, .inl (cI, 314, .inl u.2.2.1)), (q3, .inl (cI, 1256, .inl u.2.2.2.1)), (q4, .inl (cI, 80, .inl Tx)), (q5, .inl (cI, 5, .inl Nu))]) Fr) (cc := cX9_pass) (maxL := 2) (ret := (some .int)) (own := RX9) (lv := [(0, .ref o), (1, .int days)]) (by decide) rfl rfl (Nat.le_of_ble_eq_true rfl) rfl ?_
  intro p e s m below meth c Fr ls hx hb hr hts hown hml hlk hin hP hK hD hS hA hAe hsz hX hl
  refine lv_aload_n hx hb dX9_pass_0 rfl (lv_at hl 0 rfl) ?_
  refine callVv (As := []) (rest := []) (mX9_begins l D cI cC cS _ o q1 q2 q3 q4 q5 S Bg Pa Tx Nu st ln ps fm rs) ⟨hx, hb, hml, hown, hts⟩ (cwV 0 hts gX9_pass_X9_begins rfl rfl rfl (by decide +kernel) ⟨Nat.le_of_ble_eq_true rfl, Nat.le_of_ble_eq_true rfl⟩) X0_blind (fun _ _ _ => trivial) hP hK hD hS hA hl [0, 1, 2, 3, 4, 5] rfl rfl 0 7 rfl rfl rfl rfl rfl (Nat.le_of_ble_eq_true rfl) dX9_pass_1 ⟨Nat.zero_le _, Nat.zero_le _⟩ (fun _ => rfl) (fun u_ H locs hk3 hP hD hS => ?_)
  obtain ⟨u_3, e_u_3⟩ : ∃ z, z = u_ := ⟨_, rfl⟩
  subst e_u_3
  have hP : va_P D vwCl [(o, .inr (7, [.ref q1, .ref q2, .ref q3, .int st, .ref q4, .int ln, .int ps, .int (bi fm), .int rs, .ref q5])), (q1, .inl (cI, 314, .inl S)), (q2, .inl (cI, 314, .inl u_3)), (q3, .inl (cI, 1256, .inl Pa)), (q4, .inl (cI, 80, .inl Tx)), (q5, .inl (cI, 5, .inl Nu))] H := hP
  have hD : va_D Fr [(o, .inr (7, [.ref q1, .ref q2, .ref q3, .int st, .ref q4, .int ln, .int ps, .int (bi fm), .int rs, .ref q5])), (q1, .inl (cI, 314, .inl S)), (q2, .inl (cI, 314, .inl u_3)), (q3, .inl (cI, 1256, .inl Pa)), (q4, .inl (cI, 80, .inl Tx)), (q5, .inl (cI, 5, .inl Nu))] := hD
  refine W.eq (g2 := F0 m 4 ls []) rfl ?_
  refine lv_aload_n hx hb dX9_pass_4 rfl (lv_at hl 0 rfl) ?_
  refine lv_aload_n hx hb dX9_pass_5 rfl (lv_at hl 0 rfl) ?_
  refine lv_iload_n hx hb dX9_pass_6 rfl (lv_at hl 1 rfl) ?_
  refine callVi (As := [.int days]) (rest := [.ref o]) (mX9_passes l D cI cC cS _ o q1 q2 q3 q4 q5 S u_3 Pa Tx Nu st ln ps fm rs days ho.2.1) ⟨hx, hb, hml, hown, hts⟩ (cwV 1 hts gX9_pass_X9_passes rfl rfl rfl (by decide +kernel) ⟨Nat.le_of_ble_eq_true rfl, Nat.le_of_ble_eq_true rfl⟩) X0_blind (fun _ _ _ => trivial) hP hK hD hS hA hl [0, 1, 2, 3, 4, 5] rfl rfl 0 7 rfl rfl rfl rfl rfl (Nat.le_of_ble_eq_true rfl) dX9_pass_7 ⟨Nat.zero_le _, Nat.zero_le _⟩ (fun _ => rfl) (fun u_ H locs hk6 hP hD hS => ?_)
  obtain ⟨r_5, u_6⟩ := u_
  have hP : va_P D vwCl [(o, .inr (7, [.ref q1, .ref q2, .ref q3, .int st, .ref q4, .int ln, .int ps, .int (bi fm), .int rs, .ref q5])), (q1, .inl (cI, 314, .inl u_6)), (q2, .inl (cI, 314, .inl u_3)), (q3, .inl (cI, 1256, .inl Pa)), (q4, .inl (cI, 80, .inl Tx)), (q5, .inl (cI, 5, .inl Nu))] H := hP
  have hD : va_D Fr [(o, .inr (7, [.ref q1, .ref q2, .ref q3, .int st, .ref q4, .int ln, .int ps, .int (bi fm), .int rs, .ref q5])), (q1, .inl (cI, 314, .inl u_6)), (q2, .inl (cI, 314, .inl u_3)), (q3, .inl (cI, 1256, .inl Pa)), (q4, .inl (cI, 80, .inl Tx)), (q5, .inl (cI, 5, .inl Nu))] := hD
  refine W.eq (g2 := F0 m 10 ls [.int r_5, .ref o]) rfl ?_
  refine callVi (As := [.int r_5]) (rest := []) (mX9_acted l D cI cC cS _ o q1 q2 q3 q4 q5 u_6 u_3 Pa Tx Nu st ln ps fm rs r_5 ht) ⟨hx, hb, hml, hown, hts⟩ (cwV 1 hts gX9_pass_X9_acted rfl rfl rfl (by decide +kernel) ⟨Nat.le_of_ble_eq_true rfl, Nat.le_of_ble_eq_true rfl⟩) X0_blind (fun _ _ _ => trivial) hP hK hD hS hA hl [0, 1, 2, 3, 4, 5] rfl rfl 0 7 rfl rfl rfl rfl rfl (Nat.le_of_ble_eq_true rfl) dX9_pass_10 ⟨Nat.zero_le _, Nat.zero_le _⟩ (fun _ => rfl) (fun u_ H locs hk10 hP hD hS => ?_)
  obtain ⟨r_8, u_9, u_10⟩ := u_
  have hP : va_P D vwCl [(o, .inr (7, [.ref q1, .ref q2, .ref q3, .int u_10, .ref q4, .int ln, .int ps, .int (bi fm), .int rs, .ref q5])), (q1, .inl (cI, 314, .inl u_6)), (q2, .inl (cI, 314, .inl u_3)), (q3, .inl (cI, 1256, .inl u_9)), (q4, .inl (cI, 80, .inl Tx)), (q5, .inl (cI, 5, .inl Nu))] H := hP
  have hD : va_D Fr [(o, .inr (7, [.ref q1, .ref q2, .ref q3, .int u_10, .ref q4, .int ln, .int ps, .int (bi fm), .int rs, .ref q5])), (q1, .inl (cI, 314, .inl u_6)), (q2, .inl (cI, 314, .inl u_3)), (q3, .inl (cI, 1256, .inl u_9)), (q4, .inl (cI, 80, .inl Tx)), (q5, .inl (cI, 5, .inl Nu))] := hD
  refine W.eq (g2 := F0 m 13 ls [.int r_8]) rfl ?_
  exact endI hx hb hr hlk hP hK hD hS dX9_pass_13 (r_8, u_6, u_3, u_9, u_10) rfl ⟨(bd1_e hk3).trans ((bd2_e hk6).trans ((bd3_e hk10).trans rfl)), rfl⟩


/-- the value of X9_set, path by path -/
def fX9_set (S : Nat → Int32) (Bg : Nat → Int32) (Pa : Nat → Int32) (st : Int32) (what : Int32) (value : Int32) : Int32 × (Nat → Int32) × (Nat → Int32) × (Nat → Int32) × Int32 :=
  bd1 (fX9_begins S Bg) (fun (u_3 : Nat → Int32) => bd2 (fX9_sets S what value) (fun (r_5 : Int32) (u_6 : Nat → Int32) => bd3 (fX9_acted u_3 Pa st r_5) (fun (r_8 : Int32) (u_9 : Nat → Int32) (u_10 : Int32) => (r_8, u_6, u_3, u_9, u_10))))

set_option maxHeartbeats 4000000 in
set_option maxRecDepth 100000 in
/-- X9_set -/
theorem mX9_set (l : Launch) (D : va_G) (cI cC cS : ClassId) (sz : Nat) (o : Nat) (q1 : Nat) (q2 : Nat) (q3 : Nat) (q4 : Nat) (q5 : Nat) (S : Nat → Int32) (Bg : Nat → Int32) (Pa : Nat → Int32) (Tx : Nat → Int32) (Nu : Nat → Int32) (st : Int32) (ln : Int32) (ps : Int32) (fm : Bool) (rs : Int32) (what : Int32) (value : Int32) (ho : okS S) (ht : vp_in st 5) : Met l yX9_set wsX9_set ({ frames := 2, cells := 0, slots := 0, locals := 45 } : Jvm.Room) (va_Pc [.ref o, .int what, .int value] (wPre D (TY cI cC cS) [(o, .inr (7, [.ref q1, .ref q2, .ref q3, .int st, .ref q4, .int ln, .int ps, .int (bi fm), .int rs, .ref q5])), (q1, .inl (cI, 314, .inl S)), (q2, .inl (cI, 314, .inl Bg)), (q3, .inl (cI, 1256, .inl Pa)), (q4, .inl (cI, 80, .inl Tx)), (q5, .inl (cI, 5, .inl Nu))] sz X0)) (qI D (TY cI cC cS) (fun (r : Int32) (u : Int32 × (Nat → Int32) × (Nat → Int32) × (Nat → Int32) × Int32) => fX9_set S Bg Pa st what value = u ∧ r = u.1) (fun u => [(o, .inr (7, [.ref q1, .ref q2, .ref q3, .int u.2.2.2.2, .ref q4, .int ln, .int ps, .int (bi fm), .int rs, .ref q5])), (q1, .inl (cI, 314, .inl u.2.1)), (q2, .inl (cI, 314, .inl u.2.2.1)), (q3, .inl (cI, 1256, .inl u.2.2.2.1)), (q4, .inl (cI, 80, .inl Tx)), (q5, .inl (cI, 5, .inl Nu))]) (va_A [(o, .inr (7, [.ref q1, .ref q2, .ref q3, .int st, .ref q4, .int ln, .int ps, .int (bi fm), .int rs, .ref q5])), (q1, .inl (cI, 314, .inl S)), (q2, .inl (cI, 314, .inl Bg)), (q3, .inl (cI, 1256, .inl Pa)), (q4, .inl (cI, 80, .inl Tx)), (q5, .inl (cI, 5, .inl Nu))] sz)) 0 0 (va_A [(o, .inr (7, [.ref q1, .ref q2, .ref q3, .int st, .ref q4, .int ln, .int ps, .int (bi fm), .int rs, .ref q5])), (q1, .inl (cI, 314, .inl S)), (q2, .inl (cI, 314, .inl Bg)), (q3, .inl (cI, 1256, .inl Pa)), (q4, .inl (cI, 80, .inl Tx)), (q5, .inl (cI, 5, .inl Nu))] sz) := by
  refine mkM (fun Fr => qI D (TY cI cC cS) (fun (r : Int32) (u : Int32 × (Nat → Int32) × (Nat → Int32) × (Nat → Int32) × Int32) => fX9_set S Bg Pa st what value = u ∧ r = u.1) (fun u => [(o, .inr (7, [.ref q1, .ref q2, .ref q3, .int u.2.2.2.2, .ref q4, .int ln, .int ps, .int (bi fm), .int rs, .ref q5])), (q1, .inl (cI, 314, .inl u.2.1)), (q2, .inl (cI, 314, .inl u.2.2.1)), (q3, .inl (cI, 1256, .inl u.2.2.2.1)), (q4, .inl (cI, 80, .inl Tx)), (q5, .inl (cI, 5, .inl Nu))]) Fr) (cc := cX9_set) (maxL := 3) (ret := (some .int)) (own := RX9) (lv := [(0, .ref o), (1, .int what), (2, .int value)]) (by decide) rfl rfl (Nat.le_of_ble_eq_true rfl) rfl ?_
  intro p e s m below meth c Fr ls hx hb hr hts hown hml hlk hin hP hK hD hS hA hAe hsz hX hl
  refine lv_aload_n hx hb dX9_set_0 rfl (lv_at hl 0 rfl) ?_
  refine callVv (As := []) (rest := []) (mX9_begins l D cI cC cS _ o q1 q2 q3 q4 q5 S Bg Pa Tx Nu st ln ps fm rs) ⟨hx, hb, hml, hown, hts⟩ (cwV 0 hts gX9_set_X9_begins rfl rfl rfl (by decide +kernel) ⟨Nat.le_of_ble_eq_true rfl, Nat.le_of_ble_eq_true rfl⟩) X0_blind (fun _ _ _ => trivial) hP hK hD hS hA hl [0, 1, 2, 3, 4, 5] rfl rfl 0 7 rfl rfl rfl rfl rfl (Nat.le_of_ble_eq_true rfl) dX9_set_1 ⟨Nat.zero_le _, Nat.zero_le _⟩ (fun _ => rfl) (fun u_ H locs hk3 hP hD hS => ?_)
  obtain ⟨u_3, e_u_3⟩ : ∃ z, z = u_ := ⟨_, rfl⟩
  subst e_u_3
  have hP : va_P D vwCl [(o, .inr (7, [.ref q1, .ref q2, .ref q3, .int st, .ref q4, .int ln, .int ps, .int (bi fm), .int rs, .ref q5])), (q1, .inl (cI, 314, .inl S)), (q2, .inl (cI, 314, .inl u_3)), (q3, .inl (cI, 1256, .inl Pa)), (q4, .inl (cI, 80, .inl Tx)), (q5, .inl (cI, 5, .inl Nu))] H := hP
  have hD : va_D Fr [(o, .inr (7, [.ref q1, .ref q2, .ref q3, .int st, .ref q4, .int ln, .int ps, .int (bi fm), .int rs, .ref q5])), (q1, .inl (cI, 314, .inl S)), (q2, .inl (cI, 314, .inl u_3)), (q3, .inl (cI, 1256, .inl Pa)), (q4, .inl (cI, 80, .inl Tx)), (q5, .inl (cI, 5, .inl Nu))] := hD
  refine W.eq (g2 := F0 m 4 ls []) rfl ?_
  refine lv_aload_n hx hb dX9_set_4 rfl (lv_at hl 0 rfl) ?_
  refine lv_aload_n hx hb dX9_set_5 rfl (lv_at hl 0 rfl) ?_
  refine lv_iload_n hx hb dX9_set_6 rfl (lv_at hl 1 rfl) ?_
  refine lv_iload_n hx hb dX9_set_7 rfl (lv_at hl 2 rfl) ?_
  refine callVi (As := [.int what, .int value]) (rest := [.ref o]) (mX9_sets l D cI cC cS _ o q1 q2 q3 q4 q5 S u_3 Pa Tx Nu st ln ps fm rs what value) ⟨hx, hb, hml, hown, hts⟩ (cwV 2 hts gX9_set_X9_sets rfl rfl rfl (by decide +kernel) ⟨Nat.le_of_ble_eq_true rfl, Nat.le_of_ble_eq_true rfl⟩) X0_blind (fun _ _ _ => trivial) hP hK hD hS hA hl [0, 1, 2, 3, 4, 5] rfl rfl 0 7 rfl rfl rfl rfl rfl (Nat.le_of_ble_eq_true rfl) dX9_set_8 ⟨Nat.zero_le _, Nat.zero_le _⟩ (fun _ => rfl) (fun u_ H locs hk6 hP hD hS => ?_)
  obtain ⟨r_5, u_6⟩ := u_
  have hP : va_P D vwCl [(o, .inr (7, [.ref q1, .ref q2, .ref q3, .int st, .ref q4, .int ln, .int ps, .int (bi fm), .int rs, .ref q5])), (q1, .inl (cI, 314, .inl u_6)), (q2, .inl (cI, 314, .inl u_3)), (q3, .inl (cI, 1256, .inl Pa)), (q4, .inl (cI, 80, .inl Tx)), (q5, .inl (cI, 5, .inl Nu))] H := hP
  have hD : va_D Fr [(o, .inr (7, [.ref q1, .ref q2, .ref q3, .int st, .ref q4, .int ln, .int ps, .int (bi fm), .int rs, .ref q5])), (q1, .inl (cI, 314, .inl u_6)), (q2, .inl (cI, 314, .inl u_3)), (q3, .inl (cI, 1256, .inl Pa)), (q4, .inl (cI, 80, .inl Tx)), (q5, .inl (cI, 5, .inl Nu))] := hD
  refine W.eq (g2 := F0 m 11 ls [.int r_5, .ref o]) rfl ?_
  refine callVi (As := [.int r_5]) (rest := []) (mX9_acted l D cI cC cS _ o q1 q2 q3 q4 q5 u_6 u_3 Pa Tx Nu st ln ps fm rs r_5 ht) ⟨hx, hb, hml, hown, hts⟩ (cwV 1 hts gX9_set_X9_acted rfl rfl rfl (by decide +kernel) ⟨Nat.le_of_ble_eq_true rfl, Nat.le_of_ble_eq_true rfl⟩) X0_blind (fun _ _ _ => trivial) hP hK hD hS hA hl [0, 1, 2, 3, 4, 5] rfl rfl 0 7 rfl rfl rfl rfl rfl (Nat.le_of_ble_eq_true rfl) dX9_set_11 ⟨Nat.zero_le _, Nat.zero_le _⟩ (fun _ => rfl) (fun u_ H locs hk10 hP hD hS => ?_)
  obtain ⟨r_8, u_9, u_10⟩ := u_
  have hP : va_P D vwCl [(o, .inr (7, [.ref q1, .ref q2, .ref q3, .int u_10, .ref q4, .int ln, .int ps, .int (bi fm), .int rs, .ref q5])), (q1, .inl (cI, 314, .inl u_6)), (q2, .inl (cI, 314, .inl u_3)), (q3, .inl (cI, 1256, .inl u_9)), (q4, .inl (cI, 80, .inl Tx)), (q5, .inl (cI, 5, .inl Nu))] H := hP
  have hD : va_D Fr [(o, .inr (7, [.ref q1, .ref q2, .ref q3, .int u_10, .ref q4, .int ln, .int ps, .int (bi fm), .int rs, .ref q5])), (q1, .inl (cI, 314, .inl u_6)), (q2, .inl (cI, 314, .inl u_3)), (q3, .inl (cI, 1256, .inl u_9)), (q4, .inl (cI, 80, .inl Tx)), (q5, .inl (cI, 5, .inl Nu))] := hD
  refine W.eq (g2 := F0 m 14 ls [.int r_8]) rfl ?_
  exact endI hx hb hr hlk hP hK hD hS dX9_set_14 (r_8, u_6, u_3, u_9, u_10) rfl ⟨(bd1_e hk3).trans ((bd2_e hk6).trans ((bd3_e hk10).trans rfl)), rfl⟩


