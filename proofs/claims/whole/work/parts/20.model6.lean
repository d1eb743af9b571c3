/-- the loop of X9_command at 20 -/
def fX9_command_20 (S : Nat → Int32) (Tx : Nat → Int32) (Nu : Nat → Int32) (ln : Int32) (ps : Int32) : Nat → Int32 → Int32 → (Nat → Int32) → Int32 → Bool → Int32 × (Nat → Int32) × (Nat → Int32) × Int32 × Bool
  | 0, _, _, _, _, _ => default
  | fu + 1, w, x2, Q, pp, f =>
    (if f = true then bd1 (fX9_manyOf w) (fun (r_30 : Int32) => (if r_30 ≤ x2 then bd2 (fX9_must Tx ln pp f 59) (fun (u_33 : Int32) (u_34 : Bool) => (if u_34 = true then (if w = 0 then bd2 (fX9_adds S (Q 0)) (fun (r_36 : Int32) (u_37 : Nat → Int32) => (r_36, u_37, Q, u_33, u_34)) else if w = 1 then bd2 (fX9_limits S (Q 0) (Q 1) (Q 2)) (fun (r_39 : Int32) (u_40 : Nat → Int32) => (r_39, u_40, Q, u_33, u_34)) else if w = 2 then bd2 (fX9_calls S (Q 0) (Q 1) (Q 2) (w - 2)) (fun (r_42 : Int32) (u_43 : Nat → Int32) => (r_42, u_43, Q, u_33, u_34)) else if w = 3 then bd2 (fX9_calls S (Q 0) (Q 1) (Q 2) (w - 2)) (fun (r_45 : Int32) (u_46 : Nat → Int32) => (r_45, u_46, Q, u_33, u_34)) else if w = 4 then bd2 (fX9_calls S (Q 0) (Q 1) (Q 2) ((Q 3) + 2)) (fun (r_48 : Int32) (u_49 : Nat → Int32) => (r_48, u_49, Q, u_33, u_34)) else if w = 5 then bd2 (fX9_fixes S (Q 0) (Q 1) (Q 2) (Q 3) (Q 4)) (fun (r_51 : Int32) (u_52 : Nat → Int32) => (r_51, u_52, Q, u_33, u_34)) else bd2 (fX9_passes S (Q 0)) (fun (r_54 : Int32) (u_55 : Nat → Int32) => (r_54, u_55, Q, u_33, u_34))) else (0, S, Q, u_33, u_34))) else bd3 (fX9_readNumber Tx ln pp f) (fun (r_57 : Int32) (u_58 : Int32) (u_59 : Bool) => fX9_command_20 S Tx Nu ln ps fu w (x2 + 1) (upd Q x2.toNatClampNeg r_57) u_58 u_59))) else bd2 (fX9_must Tx ln pp f 59) (fun (u_6 : Int32) (u_7 : Bool) => (if u_7 = true then (if w = 0 then bd2 (fX9_adds S (Q 0)) (fun (r_9 : Int32) (u_10 : Nat → Int32) => (r_9, u_10, Q, u_6, u_7)) else if w = 1 then bd2 (fX9_limits S (Q 0) (Q 1) (Q 2)) (fun (r_12 : Int32) (u_13 : Nat → Int32) => (r_12, u_13, Q, u_6, u_7)) else if w = 2 then bd2 (fX9_calls S (Q 0) (Q 1) (Q 2) (w - 2)) (fun (r_15 : Int32) (u_16 : Nat → Int32) => (r_15, u_16, Q, u_6, u_7)) else if w = 3 then bd2 (fX9_calls S (Q 0) (Q 1) (Q 2) (w - 2)) (fun (r_18 : Int32) (u_19 : Nat → Int32) => (r_18, u_19, Q, u_6, u_7)) else if w = 4 then bd2 (fX9_calls S (Q 0) (Q 1) (Q 2) ((Q 3) + 2)) (fun (r_21 : Int32) (u_22 : Nat → Int32) => (r_21, u_22, Q, u_6, u_7)) else if w = 5 then bd2 (fX9_fixes S (Q 0) (Q 1) (Q 2) (Q 3) (Q 4)) (fun (r_24 : Int32) (u_25 : Nat → Int32) => (r_24, u_25, Q, u_6, u_7)) else bd2 (fX9_passes S (Q 0)) (fun (r_27 : Int32) (u_28 : Nat → Int32) => (r_27, u_28, Q, u_6, u_7))) else (0, S, Q, u_6, u_7))))
theorem fX9_command_20_s (S : Nat → Int32) (Tx : Nat → Int32) (Nu : Nat → Int32) (ln : Int32) (ps : Int32) (fu : Nat) (w : Int32) (x2 : Int32) (Q : Nat → Int32) (pp : Int32) (f : Bool) : fX9_command_20 S Tx Nu ln ps (fu + 1) w x2 Q pp f =
    (if f = true then bd1 (fX9_manyOf w) (fun (r_30 : Int32) => (if r_30 ≤ x2 then bd2 (fX9_must Tx ln pp f 59) (fun (u_33 : Int32) (u_34 : Bool) => (if u_34 = true then (if w = 0 then bd2 (fX9_adds S (Q 0)) (fun (r_36 : Int32) (u_37 : Nat → Int32) => (r_36, u_37, Q, u_33, u_34)) else if w = 1 then bd2 (fX9_limits S (Q 0) (Q 1) (Q 2)) (fun (r_39 : Int32) (u_40 : Nat → Int32) => (r_39, u_40, Q, u_33, u_34)) else if w = 2 then bd2 (fX9_calls S (Q 0) (Q 1) (Q 2) (w - 2)) (fun (r_42 : Int32) (u_43 : Nat → Int32) => (r_42, u_43, Q, u_33, u_34)) else if w = 3 then bd2 (fX9_calls S (Q 0) (Q 1) (Q 2) (w - 2)) (fun (r_45 : Int32) (u_46 : Nat → Int32) => (r_45, u_46, Q, u_33, u_34)) else if w = 4 then bd2 (fX9_calls S (Q 0) (Q 1) (Q 2) ((Q 3) + 2)) (fun (r_48 : Int32) (u_49 : Nat → Int32) => (r_48, u_49, Q, u_33, u_34)) else if w = 5 then bd2 (fX9_fixes S (Q 0) (Q 1) (Q 2) (Q 3) (Q 4)) (fun (r_51 : Int32) (u_52 : Nat → Int32) => (r_51, u_52, Q, u_33, u_34)) else bd2 (fX9_passes S (Q 0)) (fun (r_54 : Int32) (u_55 : Nat → Int32) => (r_54, u_55, Q, u_33, u_34))) else (0, S, Q, u_33, u_34))) else bd3 (fX9_readNumber Tx ln pp f) (fun (r_57 : Int32) (u_58 : Int32) (u_59 : Bool) => fX9_command_20 S Tx Nu ln ps fu w (x2 + 1) (upd Q x2.toNatClampNeg r_57) u_58 u_59))) else bd2 (fX9_must Tx ln pp f 59) (fun (u_6 : Int32) (u_7 : Bool) => (if u_7 = true then (if w = 0 then bd2 (fX9_adds S (Q 0)) (fun (r_9 : Int32) (u_10 : Nat → Int32) => (r_9, u_10, Q, u_6, u_7)) else if w = 1 then bd2 (fX9_limits S (Q 0) (Q 1) (Q 2)) (fun (r_12 : Int32) (u_13 : Nat → Int32) => (r_12, u_13, Q, u_6, u_7)) else if w = 2 then bd2 (fX9_calls S (Q 0) (Q 1) (Q 2) (w - 2)) (fun (r_15 : Int32) (u_16 : Nat → Int32) => (r_15, u_16, Q, u_6, u_7)) else if w = 3 then bd2 (fX9_calls S (Q 0) (Q 1) (Q 2) (w - 2)) (fun (r_18 : Int32) (u_19 : Nat → Int32) => (r_18, u_19, Q, u_6, u_7)) else if w = 4 then bd2 (fX9_calls S (Q 0) (Q 1) (Q 2) ((Q 3) + 2)) (fun (r_21 : Int32) (u_22 : Nat → Int32) => (r_21, u_22, Q, u_6, u_7)) else if w = 5 then bd2 (fX9_fixes S (Q 0) (Q 1) (Q 2) (Q 3) (Q 4)) (fun (r_24 : Int32) (u_25 : Nat → Int32) => (r_24, u_25, Q, u_6, u_7)) else bd2 (fX9_passes S (Q 0)) (fun (r_27 : Int32) (u_28 : Nat → Int32) => (r_27, u_28, Q, u_6, u_7))) else (0, S, Q, u_6, u_7)))) := rfl

/-- the value of X9_command, path by path -/
def fX9_command (S : Nat → Int32) (Tx : Nat → Int32) (Nu : Nat → Int32) (ln : Int32) (ps : Int32) : Int32 × (Nat → Int32) × (Nat → Int32) × Int32 × Bool :=
  bd2 (fX9_readWord Tx ln ps) (fun (r_2 : Int32) (u_3 : Int32) => (if r_2 < 0 then fX9_command_20 S Tx Nu ln ps (((fX9_manyOf r_2).toInt - (0 : Int32).toInt).toNat + 1) r_2 0 Nu u_3 false else fX9_command_20 S Tx Nu ln ps (((fX9_manyOf r_2).toInt - (0 : Int32).toInt).toNat + 1) r_2 0 Nu u_3 true))

set_option maxHeartbeats 4000000 in
set_option maxRecDepth 100000 in
/-- X9_command -/
theorem mX9_command (l : Launch) (D : va_G) (cI cC cS : ClassId) (sz : Nat) (o : Nat) (q1 : Nat) (q2 : Nat) (q3 : Nat) (q4 : Nat) (q5 : Nat) (S : Nat → Int32) (Bg : Nat → Int32) (Pa : Nat → Int32) (Tx : Nat → Int32) (Nu : Nat → Int32) (st : Int32) (ln : Int32) (ps : Int32) (fm : Bool) (rs : Int32) (ho : okS S) (hL : vp_in ln 81) (hq : vp_in ps 81) : Met l yX9_command wsX9_command ({ frames := 6, cells := 0, slots := 0, locals := 133 } : Jvm.Room) (va_Pc [.ref o] (wPre D (TY cI cC cS) [(o, .inr (7, [.ref q1, .ref q2, .ref q3, .int st, .ref q4, .int ln, .int ps, .int (bi fm), .int rs, .ref q5])), (q1, .inl (cI, 314, .inl S)), (q2, .inl (cI, 314, .inl Bg)), (q3, .inl (cI, 1256, .inl Pa)), (q4, .inl (cI, 80, .inl Tx)), (q5, .inl (cI, 5, .inl Nu))] sz X0)) (qI D (TY cI cC cS) (fun (r : Int32) (u : Int32 × (Nat → Int32) × (Nat → Int32) × Int32 × Bool) => fX9_command S Tx Nu ln ps = u ∧ r = u.1) (fun u => [(o, .inr (7, [.ref q1, .ref q2, .ref q3, .int st, .ref q4, .int ln, .int u.2.2.2.1, .int (bi u.2.2.2.2), .int rs, .ref q5])), (q1, .inl (cI, 314, .inl u.2.1)), (q2, .inl (cI, 314, .inl Bg)), (q3, .inl (cI, 1256, .inl Pa)), (q4, .inl (cI, 80, .inl Tx)), (q5, .inl (cI, 5, .inl u.2.2.1))]) (va_A [(o, .inr (7, [.ref q1, .ref q2, .ref q3, .int st, .ref q4, .int ln, .int ps, .int (bi fm), .int rs, .ref q5])), (q1, .inl (cI, 314, .inl S)), (q2, .inl (cI, 314, .inl Bg)), (q3, .inl (cI, 1256, .inl Pa)), (q4, .inl (cI, 80, .inl Tx)), (q5, .inl (cI, 5, .inl Nu))] sz)) 0 0 (va_A [(o, .inr (7, [.ref q1, .ref q2, .ref q3, .int st, .ref q4, .int ln, .int ps, .int (bi fm), .int rs, .ref q5])), (q1, .inl (cI, 314, .inl S)), (q2, .inl (cI, 314, .inl Bg)), (q3, .inl (cI, 1256, .inl Pa)), (q4, .inl (cI, 80, .inl Tx)), (q5, .inl (cI, 5, .inl Nu))] sz) := by
  refine mkM (fun Fr => qI D (TY cI cC cS) (fun (r : Int32) (u : Int32 × (Nat → Int32) × (Nat → Int32) × Int32 × Bool) => fX9_command S Tx Nu ln ps = u ∧ r = u.1) (fun u => [(o, .inr (7, [.ref q1, .ref q2, .ref q3, .int st, .ref q4, .int ln, .int u.2.2.2.1, .int (bi u.2.2.2.2), .int rs, .ref q5])), (q1, .inl (cI, 314, .inl u.2.1)), (q2, .inl (cI, 314, .inl Bg)), (q3, .inl (cI, 1256, .inl Pa)), (q4, .inl (cI, 80, .inl Tx)), (q5, .inl (cI, 5, .inl u.2.2.1))]) Fr) (cc := cX9_command) (maxL := 3) (ret := (some .int)) (own := RX9) (lv := [(0, .ref o)]) (by decide) rfl rfl (Nat.le_of_ble_eq_true rfl) rfl ?_
  intro p e s m below meth c Fr ls hx hb hr hts hown hml hlk hin hP hK hD hS hA hAe hsz hX hl
  have w_1 := hts (.fieldLink RX9 148 "FieldQuotasModel" "isForm" "Z") (List.mem_of_getElem? (i := 1) rfl)
  have w_2 := sub_r (big := wsX9_command) (u_ws RX9 TX9 10) [123, 124, 125, 126, 127, 128, 129, 130, 131, 132] rfl
  have w_3 := hts (.fieldLink RX9 22 "FieldQuotasModel" "numbers" "[I") (List.mem_of_getElem? (i := 2) rfl)
  refine lv_aload_n hx hb dX9_command_0 rfl (lv_at hl 0 rfl) ?_
  refine callVi (As := []) (rest := []) (mX9_readWord l D cI cC cS _ o q1 q2 q3 q4 q5 S Bg Pa Tx Nu st ln ps fm rs hL (vp_le hq (by decide))) ⟨hx, hb, hml, hown, hts⟩ (cwV 0 hts gX9_command_X9_readWord rfl rfl rfl (by decide +kernel) ⟨Nat.le_of_ble_eq_true rfl, Nat.le_of_ble_eq_true rfl⟩) X0_blind (fun _ _ _ => trivial) hP hK hD hS hA hl [0, 1, 2, 3, 4, 5] rfl rfl 0 7 rfl rfl rfl rfl rfl (Nat.le_of_ble_eq_true rfl) dX9_command_1 ⟨Nat.zero_le _, Nat.zero_le _⟩ (fun _ => rfl) (fun u_ H locs hk3 hP hD hS => ?_)
  obtain ⟨r_2, u_3⟩ := u_
  have hP : va_P D vwCl [(o, .inr (7, [.ref q1, .ref q2, .ref q3, .int st, .ref q4, .int ln, .int u_3, .int (bi fm), .int rs, .ref q5])), (q1, .inl (cI, 314, .inl S)), (q2, .inl (cI, 314, .inl Bg)), (q3, .inl (cI, 1256, .inl Pa)), (q4, .inl (cI, 80, .inl Tx)), (q5, .inl (cI, 5, .inl Nu))] H := hP
  have hD : va_D Fr [(o, .inr (7, [.ref q1, .ref q2, .ref q3, .int st, .ref q4, .int ln, .int u_3, .int (bi fm), .int rs, .ref q5])), (q1, .inl (cI, 314, .inl S)), (q2, .inl (cI, 314, .inl Bg)), (q3, .inl (cI, 1256, .inl Pa)), (q4, .inl (cI, 80, .inl Tx)), (q5, .inl (cI, 5, .inl Nu))] := hD
  refine W.eq (g2 := F0 m 4 ls [.int r_2]) rfl ?_
  refine lv_istore_n (lv' := [(1, .int r_2), (0, .ref o)]) hx hb dX9_command_4 rfl hl (by decide) rfl (fun ls hl => ?_)
  refine lv_aload_n hx hb dX9_command_5 rfl (lv_at hl 1 rfl) ?_
  refine lv_iload_n hx hb dX9_command_6 rfl (lv_at hl 0 rfl) ?_
  refine lv_if_lt (tgt := 14) hx hb dX9_command_7 (by decide) (fun c7 => ?_) (fun c7 => ?_)
  · refine lv_iconst (v := 0) hx hb dX9_command_14 (by decide) ?_
    refine va_put (D := D) (ci := 7) (v := .int 0) (ty := .boolean) (C := RX9) (T := TX9) (N := 10) hx hb hts w_2 tyX9 tyX9_ok nmX9 hown hK hP hD hS 0 rfl rfl 7 (by decide) w_1 (fun _ h9 => h9) rfl (by decide +kernel) rfl rfl (Nat.le_of_ble_eq_true rfl) dX9_command_15 (fun H locs hP hD hS => ?_)
    have hP : va_P D vwCl [(o, .inr (7, [.ref q1, .ref q2, .ref q3, .int st, .ref q4, .int ln, .int u_3, .int 0, .int rs, .ref q5])), (q1, .inl (cI, 314, .inl S)), (q2, .inl (cI, 314, .inl Bg)), (q3, .inl (cI, 1256, .inl Pa)), (q4, .inl (cI, 80, .inl Tx)), (q5, .inl (cI, 5, .inl Nu))] H := hP
    have hD : va_D Fr [(o, .inr (7, [.ref q1, .ref q2, .ref q3, .int st, .ref q4, .int ln, .int u_3, .int 0, .int rs, .ref q5])), (q1, .inl (cI, 314, .inl S)), (q2, .inl (cI, 314, .inl Bg)), (q3, .inl (cI, 1256, .inl Pa)), (q4, .inl (cI, 80, .inl Tx)), (q5, .inl (cI, 5, .inl Nu))] := hD
    refine lv_iconst (v := 0) hx hb dX9_command_18 (by decide) ?_
    refine lv_istore_n (lv' := [(2, .int 0), (1, .int r_2), (0, .ref o)]) hx hb dX9_command_19 rfl hl (by decide) rfl (fun ls hl => ?_)
    have K_20 : ∀ (fu : Nat) (w : Int32) (x2 : Int32) (Q : Nat → Int32) (pp : Int32) (f : Bool) (H : Heap) (locs : List Loc) (ls : Array Slot), va_P D vwCl [(o, .inr (7, [.ref q1, .ref q2, .ref q3, .int st, .ref q4, .int ln, .int pp, .int (bi f), .int rs, .ref q5])), (q1, .inl (cI, 314, .inl S)), (q2, .inl (cI, 314, .inl Bg)), (q3, .inl (cI, 1256, .inl Pa)), (q4, .inl (cI, 80, .inl Tx)), (q5, .inl (cI, 5, .inl Q))] H → va_D Fr [(o, .inr (7, [.ref q1, .ref q2, .ref q3, .int st, .ref q4, .int ln, .int pp, .int (bi f), .int rs, .ref q5])), (q1, .inl (cI, 314, .inl S)), (q2, .inl (cI, 314, .inl Bg)), (q3, .inl (cI, 1256, .inl Pa)), (q4, .inl (cI, 80, .inl Tx)), (q5, .inl (cI, 5, .inl Q))] → va_S Fr s.heap H locs → lv_has ls 3 [(0, .ref o), (1, .int w), (2, .int x2)] → (cmI pp x2) → (vp_in (fX9_manyOf w) 6) → ((fX9_manyOf w).toInt - x2.toInt).toNat < fu → fX9_command S Tx Nu ln ps = fX9_command_20 S Tx Nu ln ps fu w x2 Q pp f → W p l e (headSpec wsX9_command ({ frames := 6, cells := 0, slots := 0, locals := 133 } : Jvm.Room)).room s m ([.ref o] : List Value).toArray below meth c H locs 0 0 (MQ below (qI D (TY cI cC cS) (fun (r : Int32) (u : Int32 × (Nat → Int32) × (Nat → Int32) × Int32 × Bool) => fX9_command S Tx Nu ln ps = u ∧ r = u.1) (fun u => [(o, .inr (7, [.ref q1, .ref q2, .ref q3, .int st, .ref q4, .int ln, .int u.2.2.2.1, .int (bi u.2.2.2.2), .int rs, .ref q5])), (q1, .inl (cI, 314, .inl u.2.1)), (q2, .inl (cI, 314, .inl Bg)), (q3, .inl (cI, 1256, .inl Pa)), (q4, .inl (cI, 80, .inl Tx)), (q5, .inl (cI, 5, .inl u.2.2.1))]) Fr) ([.ref o] : List Value).toArray s 0 0 Fr) (F0 m 20 ls []) := by
      intro fu
      induction fu with
      | zero => intros; exact absurd (by assumption) (Nat.not_lt_zero _)
      | succ fu ih_20 =>
        intro w x2 Q pp f H locs ls hP hD hS hl hi hw hm_20 E_20
        refine lv_aload_n hx hb dX9_command_20 rfl (lv_at hl 0 rfl) ?_
        refine va_get (D := D) (ci := 7) (C := RX9) (T := TX9) (N := 10) hx hb hts w_2 hown hK hP 0 rfl rfl 7 (by decide) w_1 (fun _ h9 => h9) rfl dX9_command_21 ?_
        refine lv_if_eq (tgt := 51) hx hb dX9_command_24 (by decide) (fun c24 => ?_) (fun c24 => ?_)
        · refine lv_aload_n hx hb dX9_command_51 rfl (lv_at hl 0 rfl) ?_
          refine lv_bipush (v := 59) hx hb dX9_command_52 (by decide) ?_
          refine callVv (As := [.int 59]) (rest := []) (mX9_must l D cI cC cS _ o q1 q2 q3 q4 q5 S Bg Pa Tx Q st ln pp f rs 59 hL (cm_nn hi)) ⟨hx, hb, hml, hown, hts⟩ (cwV 1 hts gX9_command_X9_must rfl rfl rfl (by decide +kernel) ⟨Nat.le_of_ble_eq_true rfl, Nat.le_of_ble_eq_true rfl⟩) X0_blind (fun _ _ _ => trivial) hP hK hD hS hA hl [0, 1, 2, 3, 4, 5] rfl rfl 0 7 rfl rfl rfl rfl rfl (Nat.le_of_ble_eq_true rfl) dX9_command_54 ⟨Nat.zero_le _, Nat.zero_le _⟩ (fun _ => rfl) (fun u_ H locs hk7 hP hD hS => ?_)
          obtain ⟨u_6, u_7⟩ := u_
          have hP : va_P D vwCl [(o, .inr (7, [.ref q1, .ref q2, .ref q3, .int st, .ref q4, .int ln, .int u_6, .int (bi u_7), .int rs, .ref q5])), (q1, .inl (cI, 314, .inl S)), (q2, .inl (cI, 314, .inl Bg)), (q3, .inl (cI, 1256, .inl Pa)), (q4, .inl (cI, 80, .inl Tx)), (q5, .inl (cI, 5, .inl Q))] H := hP
          have hD : va_D Fr [(o, .inr (7, [.ref q1, .ref q2, .ref q3, .int st, .ref q4, .int ln, .int u_6, .int (bi u_7), .int rs, .ref q5])), (q1, .inl (cI, 314, .inl S)), (q2, .inl (cI, 314, .inl Bg)), (q3, .inl (cI, 1256, .inl Pa)), (q4, .inl (cI, 80, .inl Tx)), (q5, .inl (cI, 5, .inl Q))] := hD
          refine W.eq (g2 := F0 m 57 ls []) rfl ?_
          refine lv_aload_n hx hb dX9_command_57 rfl (lv_at hl 0 rfl) ?_
          refine va_get (D := D) (ci := 7) (C := RX9) (T := TX9) (N := 10) hx hb hts w_2 hown hK hP 0 rfl rfl 7 (by decide) w_1 (fun _ h9 => h9) rfl dX9_command_58 ?_
          refine lv_if_ne (tgt := 66) hx hb dX9_command_61 (by decide) (fun c61 => ?_) (fun c61 => ?_)
          · refine lv_iload_n hx hb dX9_command_66 rfl (lv_at hl 1 rfl) ?_
            by_cases c67_0 : w = 0
            · refine lv_tableIn (tgt := 104) hx hb dX9_command_67 (by rw [c67_0]; decide) (by rw [c67_0]; decide) (by rw [c67_0]; rfl) (by decide) ?_
              refine lv_aload_n hx hb dX9_command_104 rfl (lv_at hl 0 rfl) ?_
              refine lv_aload_n hx hb dX9_command_105 rfl (lv_at hl 0 rfl) ?_
              refine va_get (D := D) (ci := 7) (C := RX9) (T := TX9) (N := 10) hx hb hts w_2 hown hK hP 0 rfl rfl 9 (by decide) w_3 (fun _ h9 => h9) rfl dX9_command_106 ?_
              refine lv_iconst (v := 0) hx hb dX9_command_109 (by decide) ?_
              refine va_iald hx hb hK hP 5 0 rfl rfl (vp_d rfl) dX9_command_110 ?_
              refine W.eq (g2 := F0 m 111 ls [.int (Q 0), .ref o]) rfl ?_
              refine callVi (As := [.int (Q 0)]) (rest := []) (mX9_adds l D cI cC cS _ o q1 q2 q3 q4 q5 S Bg Pa Tx Q st ln u_6 u_7 rs (Q 0) ho.1) ⟨hx, hb, hml, hown, hts⟩ (cwV 1 hts gX9_command_X9_adds rfl rfl rfl (by decide +kernel) ⟨Nat.le_of_ble_eq_true rfl, Nat.le_of_ble_eq_true rfl⟩) X0_blind (fun _ _ _ => trivial) hP hK hD hS hA hl [0, 1, 2, 3, 4, 5] rfl rfl 0 7 rfl rfl rfl rfl rfl (Nat.le_of_ble_eq_true rfl) dX9_command_111 ⟨Nat.zero_le _, Nat.zero_le _⟩ (fun _ => rfl) (fun u_ H locs hk10 hP hD hS => ?_)
              obtain ⟨r_9, u_10⟩ := u_
              have hP : va_P D vwCl [(o, .inr (7, [.ref q1, .ref q2, .ref q3, .int st, .ref q4, .int ln, .int u_6, .int (bi u_7), .int rs, .ref q5])), (q1, .inl (cI, 314, .inl u_10)), (q2, .inl (cI, 314, .inl Bg)), (q3, .inl (cI, 1256, .inl Pa)), (q4, .inl (cI, 80, .inl Tx)), (q5, .inl (cI, 5, .inl Q))] H := hP
              have hD : va_D Fr [(o, .inr (7, [.ref q1, .ref q2, .ref q3, .int st, .ref q4, .int ln, .int u_6, .int (bi u_7), .int rs, .ref q5])), (q1, .inl (cI, 314, .inl u_10)), (q2, .inl (cI, 314, .inl Bg)), (q3, .inl (cI, 1256, .inl Pa)), (q4, .inl (cI, 80, .inl Tx)), (q5, .inl (cI, 5, .inl Q))] := hD
              refine W.eq (g2 := F0 m 114 ls [.int r_9]) rfl ?_
              exact endI hx hb hr hlk hP hK hD hS dX9_command_114 (r_9, u_10, Q, u_6, u_7) rfl ⟨(E_20).trans ((fX9_command_20_s S Tx Nu ln ps fu w x2 Q pp f).trans ((if_neg (bi_z c24)).trans ((bd2_e hk7).trans ((if_pos (bi_o c61)).trans ((if_pos c67_0).trans ((bd2_e hk10).trans rfl)))))), rfl⟩
            by_cases c67_1 : w = 1
            · refine lv_tableIn (tgt := 115) hx hb dX9_command_67 (by rw [c67_1]; decide) (by rw [c67_1]; decide) (by rw [c67_1]; rfl) (by decide) ?_
              refine lv_aload_n hx hb dX9_command_115 rfl (lv_at hl 0 rfl) ?_
              refine lv_aload_n hx hb dX9_command_116 rfl (lv_at hl 0 rfl) ?_
              refine va_get (D := D) (ci := 7) (C := RX9) (T := TX9) (N := 10) hx hb hts w_2 hown hK hP 0 rfl rfl 9 (by decide) w_3 (fun _ h9 => h9) rfl dX9_command_117 ?_
              refine lv_iconst (v := 0) hx hb dX9_command_120 (by decide) ?_
              refine va_iald hx hb hK hP 5 0 rfl rfl (vp_d rfl) dX9_command_121 ?_
              refine W.eq (g2 := F0 m 122 ls [.int (Q 0), .ref o]) rfl ?_
              refine lv_aload_n hx hb dX9_command_122 rfl (lv_at hl 0 rfl) ?_
              refine va_get (D := D) (ci := 7) (C := RX9) (T := TX9) (N := 10) hx hb hts w_2 hown hK hP 0 rfl rfl 9 (by decide) w_3 (fun _ h9 => h9) rfl dX9_command_123 ?_
              refine lv_iconst (v := 1) hx hb dX9_command_126 (by decide) ?_
              refine va_iald hx hb hK hP 5 0 rfl rfl (vp_d rfl) dX9_command_127 ?_
              refine W.eq (g2 := F0 m 128 ls [.int (Q 1), .int (Q 0), .ref o]) rfl ?_
              refine lv_aload_n hx hb dX9_command_128 rfl (lv_at hl 0 rfl) ?_
              refine va_get (D := D) (ci := 7) (C := RX9) (T := TX9) (N := 10) hx hb hts w_2 hown hK hP 0 rfl rfl 9 (by decide) w_3 (fun _ h9 => h9) rfl dX9_command_129 ?_
              refine lv_iconst (v := 2) hx hb dX9_command_132 (by decide) ?_
              refine va_iald hx hb hK hP 5 0 rfl rfl (vp_d rfl) dX9_command_133 ?_
              refine W.eq (g2 := F0 m 134 ls [.int (Q 2), .int (Q 1), .int (Q 0), .ref o]) rfl ?_
              refine callVi (As := [.int (Q 0), .int (Q 1), .int (Q 2)]) (rest := []) (mX9_limits l D cI cC cS _ o q1 q2 q3 q4 q5 S Bg Pa Tx Q st ln u_6 u_7 rs (Q 0) (Q 1) (Q 2)) ⟨hx, hb, hml, hown, hts⟩ (cwV 3 hts gX9_command_X9_limits rfl rfl rfl (by decide +kernel) ⟨Nat.le_of_ble_eq_true rfl, Nat.le_of_ble_eq_true rfl⟩) X0_blind (fun _ _ _ => trivial) hP hK hD hS hA hl [0, 1, 2, 3, 4, 5] rfl rfl 0 7 rfl rfl rfl rfl rfl (Nat.le_of_ble_eq_true rfl) dX9_command_134 ⟨Nat.zero_le _, Nat.zero_le _⟩ (fun _ => rfl) (fun u_ H locs hk13 hP hD hS => ?_)
              obtain ⟨r_12, u_13⟩ := u_
              have hP : va_P D vwCl [(o, .inr (7, [.ref q1, .ref q2, .ref q3, .int st, .ref q4, .int ln, .int u_6, .int (bi u_7), .int rs, .ref q5])), (q1, .inl (cI, 314, .inl u_13)), (q2, .inl (cI, 314, .inl Bg)), (q3, .inl (cI, 1256, .inl Pa)), (q4, .inl (cI, 80, .inl Tx)), (q5, .inl (cI, 5, .inl Q))] H := hP
              have hD : va_D Fr [(o, .inr (7, [.ref q1, .ref q2, .ref q3, .int st, .ref q4, .int ln, .int u_6, .int (bi u_7), .int rs, .ref q5])), (q1, .inl (cI, 314, .inl u_13)), (q2, .inl (cI, 314, .inl Bg)), (q3, .inl (cI, 1256, .inl Pa)), (q4, .inl (cI, 80, .inl Tx)), (q5, .inl (cI, 5, .inl Q))] := hD
              refine W.eq (g2 := F0 m 137 ls [.int r_12]) rfl ?_
              exact endI hx hb hr hlk hP hK hD hS dX9_command_137 (r_12, u_13, Q, u_6, u_7) rfl ⟨(E_20).trans ((fX9_command_20_s S Tx Nu ln ps fu w x2 Q pp f).trans ((if_neg (bi_z c24)).trans ((bd2_e hk7).trans ((if_pos (bi_o c61)).trans ((if_neg c67_0).trans ((if_pos c67_1).trans ((bd2_e hk13).trans rfl))))))), rfl⟩
            by_cases c67_2 : w = 2
            · refine lv_tableIn (tgt := 138) hx hb dX9_command_67 (by rw [c67_2]; decide) (by rw [c67_2]; decide) (by rw [c67_2]; rfl) (by decide) ?_
              refine lv_aload_n hx hb dX9_command_138 rfl (lv_at hl 0 rfl) ?_
              refine lv_aload_n hx hb dX9_command_139 rfl (lv_at hl 0 rfl) ?_
              refine va_get (D := D) (ci := 7) (C := RX9) (T := TX9) (N := 10) hx hb hts w_2 hown hK hP 0 rfl rfl 9 (by decide) w_3 (fun _ h9 => h9) rfl dX9_command_140 ?_
              refine lv_iconst (v := 0) hx hb dX9_command_143 (by decide) ?_
              refine va_iald hx hb hK hP 5 0 rfl rfl (vp_d rfl) dX9_command_144 ?_
              refine W.eq (g2 := F0 m 145 ls [.int (Q 0), .ref o]) rfl ?_
              refine lv_aload_n hx hb dX9_command_145 rfl (lv_at hl 0 rfl) ?_
              refine va_get (D := D) (ci := 7) (C := RX9) (T := TX9) (N := 10) hx hb hts w_2 hown hK hP 0 rfl rfl 9 (by decide) w_3 (fun _ h9 => h9) rfl dX9_command_146 ?_
              refine lv_iconst (v := 1) hx hb dX9_command_149 (by decide) ?_
              refine va_iald hx hb hK hP 5 0 rfl rfl (vp_d rfl) dX9_command_150 ?_
              refine W.eq (g2 := F0 m 151 ls [.int (Q 1), .int (Q 0), .ref o]) rfl ?_
              refine lv_aload_n hx hb dX9_command_151 rfl (lv_at hl 0 rfl) ?_
              refine va_get (D := D) (ci := 7) (C := RX9) (T := TX9) (N := 10) hx hb hts w_2 hown hK hP 0 rfl rfl 9 (by decide) w_3 (fun _ h9 => h9) rfl dX9_command_152 ?_
              refine lv_iconst (v := 2) hx hb dX9_command_155 (by decide) ?_
              refine va_iald hx hb hK hP 5 0 rfl rfl (vp_d rfl) dX9_command_156 ?_
              refine W.eq (g2 := F0 m 157 ls [.int (Q 2), .int (Q 1), .int (Q 0), .ref o]) rfl ?_
              refine lv_iload_n hx hb dX9_command_157 rfl (lv_at hl 1 rfl) ?_
              refine lv_iconst (v := 2) hx hb dX9_command_158 (by decide) ?_
              refine lv_isub hx hb dX9_command_159 ?_
              refine callVi (As := [.int (Q 0), .int (Q 1), .int (Q 2), .int (w - 2)]) (rest := []) (mX9_calls l D cI cC cS _ o q1 q2 q3 q4 q5 S Bg Pa Tx Q st ln u_6 u_7 rs (Q 0) (Q 1) (Q 2) (w - 2) ho) ⟨hx, hb, hml, hown, hts⟩ (cwV 4 hts gX9_command_X9_calls rfl rfl rfl (by decide +kernel) ⟨Nat.le_of_ble_eq_true rfl, Nat.le_of_ble_eq_true rfl⟩) X0_blind (fun _ _ _ => trivial) hP hK hD hS hA hl [0, 1, 2, 3, 4, 5] rfl rfl 0 7 rfl rfl rfl rfl rfl (Nat.le_of_ble_eq_true rfl) dX9_command_160 ⟨Nat.zero_le _, Nat.zero_le _⟩ (fun _ => rfl) (fun u_ H locs hk16 hP hD hS => ?_)
              obtain ⟨r_15, u_16⟩ := u_
              have hP : va_P D vwCl [(o, .inr (7, [.ref q1, .ref q2, .ref q3, .int st, .ref q4, .int ln, .int u_6, .int (bi u_7), .int rs, .ref q5])), (q1, .inl (cI, 314, .inl u_16)), (q2, .inl (cI, 314, .inl Bg)), (q3, .inl (cI, 1256, .inl Pa)), (q4, .inl (cI, 80, .inl Tx)), (q5, .inl (cI, 5, .inl Q))] H := hP
              have hD : va_D Fr [(o, .inr (7, [.ref q1, .ref q2, .ref q3, .int st, .ref q4, .int ln, .int u_6, .int (bi u_7), .int rs, .ref q5])), (q1, .inl (cI, 314, .inl u_16)), (q2, .inl (cI, 314, .inl Bg)), (q3, .inl (cI, 1256, .inl Pa)), (q4, .inl (cI, 80, .inl Tx)), (q5, .inl (cI, 5, .inl Q))] := hD
              refine W.eq (g2 := F0 m 163 ls [.int r_15]) rfl ?_
              exact endI hx hb hr hlk hP hK hD hS dX9_command_163 (r_15, u_16, Q, u_6, u_7) rfl ⟨(E_20).trans ((fX9_command_20_s S Tx Nu ln ps fu w x2 Q pp f).trans ((if_neg (bi_z c24)).trans ((bd2_e hk7).trans ((if_pos (bi_o c61)).trans ((if_neg c67_0).trans ((if_neg c67_1).trans ((if_pos c67_2).trans ((bd2_e hk16).trans rfl)))))))), rfl⟩
            by_cases c67_3 : w = 3
            · refine lv_tableIn (tgt := 138) hx hb dX9_command_67 (by rw [c67_3]; decide) (by rw [c67_3]; decide) (by rw [c67_3]; rfl) (by decide) ?_
              refine lv_aload_n hx hb dX9_command_138 rfl (lv_at hl 0 rfl) ?_
              refine lv_aload_n hx hb dX9_command_139 rfl (lv_at hl 0 rfl) ?_
              refine va_get (D := D) (ci := 7) (C := RX9) (T := TX9) (N := 10) hx hb hts w_2 hown hK hP 0 rfl rfl 9 (by decide) w_3 (fun _ h9 => h9) rfl dX9_command_140 ?_
              refine lv_iconst (v := 0) hx hb dX9_command_143 (by decide) ?_
              refine va_iald hx hb hK hP 5 0 rfl rfl (vp_d rfl) dX9_command_144 ?_
              refine W.eq (g2 := F0 m 145 ls [.int (Q 0), .ref o]) rfl ?_
              refine lv_aload_n hx hb dX9_command_145 rfl (lv_at hl 0 rfl) ?_
              refine va_get (D := D) (ci := 7) (C := RX9) (T := TX9) (N := 10) hx hb hts w_2 hown hK hP 0 rfl rfl 9 (by decide) w_3 (fun _ h9 => h9) rfl dX9_command_146 ?_
              refine lv_iconst (v := 1) hx hb dX9_command_149 (by decide) ?_
              refine va_iald hx hb hK hP 5 0 rfl rfl (vp_d rfl) dX9_command_150 ?_
              refine W.eq (g2 := F0 m 151 ls [.int (Q 1), .int (Q 0), .ref o]) rfl ?_
              refine lv_aload_n hx hb dX9_command_151 rfl (lv_at hl 0 rfl) ?_
              refine va_get (D := D) (ci := 7) (C := RX9) (T := TX9) (N := 10) hx hb hts w_2 hown hK hP 0 rfl rfl 9 (by decide) w_3 (fun _ h9 => h9) rfl dX9_command_152 ?_
              refine lv_iconst (v := 2) hx hb dX9_command_155 (by decide) ?_
              refine va_iald hx hb hK hP 5 0 rfl rfl (vp_d rfl) dX9_command_156 ?_
              refine W.eq (g2 := F0 m 157 ls [.int (Q 2), .int (Q 1), .int (Q 0), .ref o]) rfl ?_
              refine lv_iload_n hx hb dX9_command_157 rfl (lv_at hl 1 rfl) ?_
              refine lv_iconst (v := 2) hx hb dX9_command_158 (by decide) ?_
              refine lv_isub hx hb dX9_command_159 ?_
              refine callVi (As := [.int (Q 0), .int (Q 1), .int (Q 2), .int (w - 2)]) (rest := []) (mX9_calls l D cI cC cS _ o q1 q2 q3 q4 q5 S Bg Pa Tx Q st ln u_6 u_7 rs (Q 0) (Q 1) (Q 2) (w - 2) ho) ⟨hx, hb, hml, hown, hts⟩ (cwV 4 hts gX9_command_X9_calls rfl rfl rfl (by decide +kernel) ⟨Nat.le_of_ble_eq_true rfl, Nat.le_of_ble_eq_true rfl⟩) X0_blind (fun _ _ _ => trivial) hP hK hD hS hA hl [0, 1, 2, 3, 4, 5] rfl rfl 0 7 rfl rfl rfl rfl rfl (Nat.le_of_ble_eq_true rfl) dX9_command_160 ⟨Nat.zero_le _, Nat.zero_le _⟩ (fun _ => rfl) (fun u_ H locs hk19 hP hD hS => ?_)
              obtain ⟨r_18, u_19⟩ := u_
              have hP : va_P D vwCl [(o, .inr (7, [.ref q1, .ref q2, .ref q3, .int st, .ref q4, .int ln, .int u_6, .int (bi u_7), .int rs, .ref q5])), (q1, .inl (cI, 314, .inl u_19)), (q2, .inl (cI, 314, .inl Bg)), (q3, .inl (cI, 1256, .inl Pa)), (q4, .inl (cI, 80, .inl Tx)), (q5, .inl (cI, 5, .inl Q))] H := hP
              have hD : va_D Fr [(o, .inr (7, [.ref q1, .ref q2, .ref q3, .int st, .ref q4, .int ln, .int u_6, .int (bi u_7), .int rs, .ref q5])), (q1, .inl (cI, 314, .inl u_19)), (q2, .inl (cI, 314, .inl Bg)), (q3, .inl (cI, 1256, .inl Pa)), (q4, .inl (cI, 80, .inl Tx)), (q5, .inl (cI, 5, .inl Q))] := hD
              refine W.eq (g2 := F0 m 163 ls [.int r_18]) rfl ?_
              exact endI hx hb hr hlk hP hK hD hS dX9_command_163 (r_18, u_19, Q, u_6, u_7) rfl ⟨(E_20).trans ((fX9_command_20_s S Tx Nu ln ps fu w x2 Q pp f).trans ((if_neg (bi_z c24)).trans ((bd2_e hk7).trans ((if_pos (bi_o c61)).trans ((if_neg c67_0).trans ((if_neg c67_1).trans ((if_neg c67_2).trans ((if_pos c67_3).trans ((bd2_e hk19).trans rfl))))))))), rfl⟩
            by_cases c67_4 : w = 4
            · refine lv_tableIn (tgt := 164) hx hb dX9_command_67 (by rw [c67_4]; decide) (by rw [c67_4]; decide) (by rw [c67_4]; rfl) (by decide) ?_
              refine lv_aload_n hx hb dX9_command_164 rfl (lv_at hl 0 rfl) ?_
              refine lv_aload_n hx hb dX9_command_165 rfl (lv_at hl 0 rfl) ?_
              refine va_get (D := D) (ci := 7) (C := RX9) (T := TX9) (N := 10) hx hb hts w_2 hown hK hP 0 rfl rfl 9 (by decide) w_3 (fun _ h9 => h9) rfl dX9_command_166 ?_
              refine lv_iconst (v := 0) hx hb dX9_command_169 (by decide) ?_
              refine va_iald hx hb hK hP 5 0 rfl rfl (vp_d rfl) dX9_command_170 ?_
              refine W.eq (g2 := F0 m 171 ls [.int (Q 0), .ref o]) rfl ?_
              refine lv_aload_n hx hb dX9_command_171 rfl (lv_at hl 0 rfl) ?_
              refine va_get (D := D) (ci := 7) (C := RX9) (T := TX9) (N := 10) hx hb hts w_2 hown hK hP 0 rfl rfl 9 (by decide) w_3 (fun _ h9 => h9) rfl dX9_command_172 ?_
              refine lv_iconst (v := 1) hx hb dX9_command_175 (by decide) ?_
              refine va_iald hx hb hK hP 5 0 rfl rfl (vp_d rfl) dX9_command_176 ?_
              refine W.eq (g2 := F0 m 177 ls [.int (Q 1), .int (Q 0), .ref o]) rfl ?_
              refine lv_aload_n hx hb dX9_command_177 rfl (lv_at hl 0 rfl) ?_
              refine va_get (D := D) (ci := 7) (C := RX9) (T := TX9) (N := 10) hx hb hts w_2 hown hK hP 0 rfl rfl 9 (by decide) w_3 (fun _ h9 => h9) rfl dX9_command_178 ?_
              refine lv_iconst (v := 2) hx hb dX9_command_181 (by decide) ?_
              refine va_iald hx hb hK hP 5 0 rfl rfl (vp_d rfl) dX9_command_182 ?_
              refine W.eq (g2 := F0 m 183 ls [.int (Q 2), .int (Q 1), .int (Q 0), .ref o]) rfl ?_
              refine lv_aload_n hx hb dX9_command_183 rfl (lv_at hl 0 rfl) ?_
              refine va_get (D := D) (ci := 7) (C := RX9) (T := TX9) (N := 10) hx hb hts w_2 hown hK hP 0 rfl rfl 9 (by decide) w_3 (fun _ h9 => h9) rfl dX9_command_184 ?_
              refine lv_iconst (v := 3) hx hb dX9_command_187 (by decide) ?_
              refine va_iald hx hb hK hP 5 0 rfl rfl (vp_d rfl) dX9_command_188 ?_
              refine W.eq (g2 := F0 m 189 ls [.int (Q 3), .int (Q 2), .int (Q 1), .int (Q 0), .ref o]) rfl ?_
              refine lv_iconst (v := 2) hx hb dX9_command_189 (by decide) ?_
              refine lv_iadd hx hb dX9_command_190 ?_
              refine callVi (As := [.int (Q 0), .int (Q 1), .int (Q 2), .int ((Q 3) + 2)]) (rest := []) (mX9_calls l D cI cC cS _ o q1 q2 q3 q4 q5 S Bg Pa Tx Q st ln u_6 u_7 rs (Q 0) (Q 1) (Q 2) ((Q 3) + 2) ho) ⟨hx, hb, hml, hown, hts⟩ (cwV 4 hts gX9_command_X9_calls rfl rfl rfl (by decide +kernel) ⟨Nat.le_of_ble_eq_true rfl, Nat.le_of_ble_eq_true rfl⟩) X0_blind (fun _ _ _ => trivial) hP hK hD hS hA hl [0, 1, 2, 3, 4, 5] rfl rfl 0 7 rfl rfl rfl rfl rfl (Nat.le_of_ble_eq_true rfl) dX9_command_191 ⟨Nat.zero_le _, Nat.zero_le _⟩ (fun _ => rfl) (fun u_ H locs hk22 hP hD hS => ?_)
              obtain ⟨r_21, u_22⟩ := u_
              have hP : va_P D vwCl [(o, .inr (7, [.ref q1, .ref q2, .ref q3, .int st, .ref q4, .int ln, .int u_6, .int (bi u_7), .int rs, .ref q5])), (q1, .inl (cI, 314, .inl u_22)), (q2, .inl (cI, 314, .inl Bg)), (q3, .inl (cI, 1256, .inl Pa)), (q4, .inl (cI, 80, .inl Tx)), (q5, .inl (cI, 5, .inl Q))] H := hP
              have hD : va_D Fr [(o, .inr (7, [.ref q1, .ref q2, .ref q3, .int st, .ref q4, .int ln, .int u_6, .int (bi u_7), .int rs, .ref q5])), (q1, .inl (cI, 314, .inl u_22)), (q2, .inl (cI, 314, .inl Bg)), (q3, .inl (cI, 1256, .inl Pa)), (q4, .inl (cI, 80, .inl Tx)), (q5, .inl (cI, 5, .inl Q))] := hD
              refine W.eq (g2 := F0 m 194 ls [.int r_21]) rfl ?_
              exact endI hx hb hr hlk hP hK hD hS dX9_command_194 (r_21, u_22, Q, u_6, u_7) rfl ⟨(E_20).trans ((fX9_command_20_s S Tx Nu ln ps fu w x2 Q pp f).trans ((if_neg (bi_z c24)).trans ((bd2_e hk7).trans ((if_pos (bi_o c61)).trans ((if_neg c67_0).trans ((if_neg c67_1).trans ((if_neg c67_2).trans ((if_neg c67_3).trans ((if_pos c67_4).trans ((bd2_e hk22).trans rfl)))))))))), rfl⟩
            by_cases c67_5 : w = 5
            · refine lv_tableIn (tgt := 195) hx hb dX9_command_67 (by rw [c67_5]; decide) (by rw [c67_5]; decide) (by rw [c67_5]; rfl) (by decide) ?_
              refine lv_aload_n hx hb dX9_command_195 rfl (lv_at hl 0 rfl) ?_
              refine lv_aload_n hx hb dX9_command_196 rfl (lv_at hl 0 rfl) ?_
              refine va_get (D := D) (ci := 7) (C := RX9) (T := TX9) (N := 10) hx hb hts w_2 hown hK hP 0 rfl rfl 9 (by decide) w_3 (fun _ h9 => h9) rfl dX9_command_197 ?_
              refine lv_iconst (v := 0) hx hb dX9_command_200 (by decide) ?_
              refine va_iald hx hb hK hP 5 0 rfl rfl (vp_d rfl) dX9_command_201 ?_
              refine W.eq (g2 := F0 m 202 ls [.int (Q 0), .ref o]) rfl ?_
              refine lv_aload_n hx hb dX9_command_202 rfl (lv_at hl 0 rfl) ?_
              refine va_get (D := D) (ci := 7) (C := RX9) (T := TX9) (N := 10) hx hb hts w_2 hown hK hP 0 rfl rfl 9 (by decide) w_3 (fun _ h9 => h9) rfl dX9_command_203 ?_
              refine lv_iconst (v := 1) hx hb dX9_command_206 (by decide) ?_
              refine va_iald hx hb hK hP 5 0 rfl rfl (vp_d rfl) dX9_command_207 ?_
              refine W.eq (g2 := F0 m 208 ls [.int (Q 1), .int (Q 0), .ref o]) rfl ?_
              refine lv_aload_n hx hb dX9_command_208 rfl (lv_at hl 0 rfl) ?_
              refine va_get (D := D) (ci := 7) (C := RX9) (T := TX9) (N := 10) hx hb hts w_2 hown hK hP 0 rfl rfl 9 (by decide) w_3 (fun _ h9 => h9) rfl dX9_command_209 ?_
              refine lv_iconst (v := 2) hx hb dX9_command_212 (by decide) ?_
              refine va_iald hx hb hK hP 5 0 rfl rfl (vp_d rfl) dX9_command_213 ?_
              refine W.eq (g2 := F0 m 214 ls [.int (Q 2), .int (Q 1), .int (Q 0), .ref o]) rfl ?_
              refine lv_aload_n hx hb dX9_command_214 rfl (lv_at hl 0 rfl) ?_
              refine va_get (D := D) (ci := 7) (C := RX9) (T := TX9) (N := 10) hx hb hts w_2 hown hK hP 0 rfl rfl 9 (by decide) w_3 (fun _ h9 => h9) rfl dX9_command_215 ?_
              refine lv_iconst (v := 3) hx hb dX9_command_218 (by decide) ?_
              refine va_iald hx hb hK hP 5 0 rfl rfl (vp_d rfl) dX9_command_219 ?_
              refine W.eq (g2 := F0 m 220 ls [.int (Q 3), .int (Q 2), .int (Q 1), .int (Q 0), .ref o]) rfl ?_
              refine lv_aload_n hx hb dX9_command_220 rfl (lv_at hl 0 rfl) ?_
              refine va_get (D := D) (ci := 7) (C := RX9) (T := TX9) (N := 10) hx hb hts w_2 hown hK hP 0 rfl rfl 9 (by decide) w_3 (fun _ h9 => h9) rfl dX9_command_221 ?_
              refine lv_iconst (v := 4) hx hb dX9_command_224 (by decide) ?_
              refine va_iald hx hb hK hP 5 0 rfl rfl (vp_d rfl) dX9_command_225 ?_
              refine W.eq (g2 := F0 m 226 ls [.int (Q 4), .int (Q 3), .int (Q 2), .int (Q 1), .int (Q 0), .ref o]) rfl ?_
              refine callVi (As := [.int (Q 0), .int (Q 1), .int (Q 2), .int (Q 3), .int (Q 4)]) (rest := []) (mX9_fixes l D cI cC cS _ o q1 q2 q3 q4 q5 S Bg Pa Tx Q st ln u_6 u_7 rs (Q 0) (Q 1) (Q 2) (Q 3) (Q 4) ho) ⟨hx, hb, hml, hown, hts⟩ (cwV 5 hts gX9_command_X9_fixes rfl rfl rfl (by decide +kernel) ⟨Nat.le_of_ble_eq_true rfl, Nat.le_of_ble_eq_true rfl⟩) X0_blind (fun _ _ _ => trivial) hP hK hD hS hA hl [0, 1, 2, 3, 4, 5] rfl rfl 0 7 rfl rfl rfl rfl rfl (Nat.le_of_ble_eq_true rfl) dX9_command_226 ⟨Nat.zero_le _, Nat.zero_le _⟩ (fun _ => rfl) (fun u_ H locs hk25 hP hD hS => ?_)
              obtain ⟨r_24, u_25⟩ := u_
              have hP : va_P D vwCl [(o, .inr (7, [.ref q1, .ref q2, .ref q3, .int st, .ref q4, .int ln, .int u_6, .int (bi u_7), .int rs, .ref q5])), (q1, .inl (cI, 314, .inl u_25)), (q2, .inl (cI, 314, .inl Bg)), (q3, .inl (cI, 1256, .inl Pa)), (q4, .inl (cI, 80, .inl Tx)), (q5, .inl (cI, 5, .inl Q))] H := hP
              have hD : va_D Fr [(o, .inr (7, [.ref q1, .ref q2, .ref q3, .int st, .ref q4, .int ln, .int u_6, .int (bi u_7), .int rs, .ref q5])), (q1, .inl (cI, 314, .inl u_25)), (q2, .inl (cI, 314, .inl Bg)), (q3, .inl (cI, 1256, .inl Pa)), (q4, .inl (cI, 80, .inl Tx)), (q5, .inl (cI, 5, .inl Q))] := hD
              refine W.eq (g2 := F0 m 229 ls [.int r_24]) rfl ?_
              exact endI hx hb hr hlk hP hK hD hS dX9_command_229 (r_24, u_25, Q, u_6, u_7) rfl ⟨(E_20).trans ((fX9_command_20_s S Tx Nu ln ps fu w x2 Q pp f).trans ((if_neg (bi_z c24)).trans ((bd2_e hk7).trans ((if_pos (bi_o c61)).trans ((if_neg c67_0).trans ((if_neg c67_1).trans ((if_neg c67_2).trans ((if_neg c67_3).trans ((if_neg c67_4).trans ((if_pos c67_5).trans ((bd2_e hk25).trans rfl))))))))))), rfl⟩
            refine lv_tableOut (tgt := 230) hx hb dX9_command_67 (tab_out (lo := 0) (hi := 5) (by decide) (fun k kk1 kk2 => ?_)) (by decide) ?_
            · rcases (show k = 0 ∨ k = 1 ∨ k = 2 ∨ k = 3 ∨ k = 4 ∨ k = 5 by omega) with rfl | rfl | rfl | rfl | rfl | rfl
              · exact ne_ti c67_0 (by decide)
              · exact ne_ti c67_1 (by decide)
              · exact ne_ti c67_2 (by decide)
              · exact ne_ti c67_3 (by decide)
              · exact ne_ti c67_4 (by decide)
              · exact ne_ti c67_5 (by decide)
            refine lv_aload_n hx hb dX9_command_230 rfl (lv_at hl 0 rfl) ?_
            refine lv_aload_n hx hb dX9_command_231 rfl (lv_at hl 0 rfl) ?_
            refine va_get (D := D) (ci := 7) (C := RX9) (T := TX9) (N := 10) hx hb hts w_2 hown hK hP 0 rfl rfl 9 (by decide) w_3 (fun _ h9 => h9) rfl dX9_command_232 ?_
            refine lv_iconst (v := 0) hx hb dX9_command_235 (by decide) ?_
            refine va_iald hx hb hK hP 5 0 rfl rfl (vp_d rfl) dX9_command_236 ?_
            refine W.eq (g2 := F0 m 237 ls [.int (Q 0), .ref o]) rfl ?_
            refine callVi (As := [.int (Q 0)]) (rest := []) (mX9_passes l D cI cC cS _ o q1 q2 q3 q4 q5 S Bg Pa Tx Q st ln u_6 u_7 rs (Q 0) ho.2.1) ⟨hx, hb, hml, hown, hts⟩ (cwV 1 hts gX9_command_X9_passes rfl rfl rfl (by decide +kernel) ⟨Nat.le_of_ble_eq_true rfl, Nat.le_of_ble_eq_true rfl⟩) X0_blind (fun _ _ _ => trivial) hP hK hD hS hA hl [0, 1, 2, 3, 4, 5] rfl rfl 0 7 rfl rfl rfl rfl rfl (Nat.le_of_ble_eq_true rfl) dX9_command_237 ⟨Nat.zero_le _, Nat.zero_le _⟩ (fun _ => rfl) (fun u_ H locs hk28 hP hD hS => ?_)
            obtain ⟨r_27, u_28⟩ := u_
            have hP : va_P D vwCl [(o, .inr (7, [.ref q1, .ref q2, .ref q3, .int st, .ref q4, .int ln, .int u_6, .int (bi u_7), .int rs, .ref q5])), (q1, .inl (cI, 314, .inl u_28)), (q2, .inl (cI, 314, .inl Bg)), (q3, .inl (cI, 1256, .inl Pa)), (q4, .inl (cI, 80, .inl Tx)), (q5, .inl (cI, 5, .inl Q))] H := hP
            have hD : va_D Fr [(o, .inr (7, [.ref q1, .ref q2, .ref q3, .int st, .ref q4, .int ln, .int u_6, .int (bi u_7), .int rs, .ref q5])), (q1, .inl (cI, 314, .inl u_28)), (q2, .inl (cI, 314, .inl Bg)), (q3, .inl (cI, 1256, .inl Pa)), (q4, .inl (cI, 80, .inl Tx)), (q5, .inl (cI, 5, .inl Q))] := hD
            refine W.eq (g2 := F0 m 240 ls [.int r_27]) rfl ?_
            exact endI hx hb hr hlk hP hK hD hS dX9_command_240 (r_27, u_28, Q, u_6, u_7) rfl ⟨(E_20).trans ((fX9_command_20_s S Tx Nu ln ps fu w x2 Q pp f).trans ((if_neg (bi_z c24)).trans ((bd2_e hk7).trans ((if_pos (bi_o c61)).trans ((if_neg c67_0).trans ((if_neg c67_1).trans ((if_neg c67_2).trans ((if_neg c67_3).trans ((if_neg c67_4).trans ((if_neg c67_5).trans ((bd2_e hk28).trans rfl))))))))))), rfl⟩
          · refine lv_iconst (v := 0) hx hb dX9_command_64 (by decide) ?_
            exact endI hx hb hr hlk hP hK hD hS dX9_command_65 (0, S, Q, u_6, u_7) rfl ⟨(E_20).trans ((fX9_command_20_s S Tx Nu ln ps fu w x2 Q pp f).trans ((if_neg (bi_z c24)).trans ((bd2_e hk7).trans ((if_neg (bi_z c61)).trans rfl)))), rfl⟩
        · refine lv_iload_n hx hb dX9_command_27 rfl (lv_at hl 2 rfl) ?_
          refine lv_iload_n hx hb dX9_command_28 rfl (lv_at hl 1 rfl) ?_
          refine callSi (As := [.int w]) (rest := [.int x2]) (mX9_manyOf l D cI cC cS _ w) ⟨hx, hb, hml, hown, hts⟩ (va_cwS 1 hts gX9_command_X9_manyOf rfl rfl rfl (by decide +kernel) ⟨Nat.le_of_ble_eq_true rfl, Nat.le_of_ble_eq_true rfl⟩) hP hK hD hS hA hl rfl rfl (Nat.le_of_ble_eq_true rfl) dX9_command_29 ⟨Nat.zero_le _, Nat.zero_le _⟩ (fun u_ H locs hk30 hP hS => ?_)
          obtain ⟨r_30, e_r_30⟩ : ∃ z, z = u_ := ⟨_, rfl⟩
          subst e_r_30
          refine W.eq (g2 := F0 m 32 ls [.int r_30, .int x2]) rfl ?_
          refine lv_icmp_ge (tgt := 51) hx hb dX9_command_32 (by decide) (fun c32 => ?_) (fun c32 => ?_)
          · refine lv_aload_n hx hb dX9_command_51 rfl (lv_at hl 0 rfl) ?_
            refine lv_bipush (v := 59) hx hb dX9_command_52 (by decide) ?_
            refine callVv (As := [.int 59]) (rest := []) (mX9_must l D cI cC cS _ o q1 q2 q3 q4 q5 S Bg Pa Tx Q st ln pp f rs 59 hL (cm_nn hi)) ⟨hx, hb, hml, hown, hts⟩ (cwV 1 hts gX9_command_X9_must rfl rfl rfl (by decide +kernel) ⟨Nat.le_of_ble_eq_true rfl, Nat.le_of_ble_eq_true rfl⟩) X0_blind (fun _ _ _ => trivial) hP hK hD hS hA hl [0, 1, 2, 3, 4, 5] rfl rfl 0 7 rfl rfl rfl rfl rfl (Nat.le_of_ble_eq_true rfl) dX9_command_54 ⟨Nat.zero_le _, Nat.zero_le _⟩ (fun _ => rfl) (fun u_ H locs hk34 hP hD hS => ?_)
            obtain ⟨u_33, u_34⟩ := u_
            have hP : va_P D vwCl [(o, .inr (7, [.ref q1, .ref q2, .ref q3, .int st, .ref q4, .int ln, .int u_33, .int (bi u_34), .int rs, .ref q5])), (q1, .inl (cI, 314, .inl S)), (q2, .inl (cI, 314, .inl Bg)), (q3, .inl (cI, 1256, .inl Pa)), (q4, .inl (cI, 80, .inl Tx)), (q5, .inl (cI, 5, .inl Q))] H := hP
            have hD : va_D Fr [(o, .inr (7, [.ref q1, .ref q2, .ref q3, .int st, .ref q4, .int ln, .int u_33, .int (bi u_34), .int rs, .ref q5])), (q1, .inl (cI, 314, .inl S)), (q2, .inl (cI, 314, .inl Bg)), (q3, .inl (cI, 1256, .inl Pa)), (q4, .inl (cI, 80, .inl Tx)), (q5, .inl (cI, 5, .inl Q))] := hD
            refine W.eq (g2 := F0 m 57 ls []) rfl ?_
            refine lv_aload_n hx hb dX9_command_57 rfl (lv_at hl 0 rfl) ?_
            refine va_get (D := D) (ci := 7) (C := RX9) (T := TX9) (N := 10) hx hb hts w_2 hown hK hP 0 rfl rfl 7 (by decide) w_1 (fun _ h9 => h9) rfl dX9_command_58 ?_
            refine lv_if_ne (tgt := 66) hx hb dX9_command_61 (by decide) (fun c61 => ?_) (fun c61 => ?_)
            · refine lv_iload_n hx hb dX9_command_66 rfl (lv_at hl 1 rfl) ?_
              by_cases c67_0 : w = 0
              · refine lv_tableIn (tgt := 104) hx hb dX9_command_67 (by rw [c67_0]; decide) (by rw [c67_0]; decide) (by rw [c67_0]; rfl) (by decide) ?_
                refine lv_aload_n hx hb dX9_command_104 rfl (lv_at hl 0 rfl) ?_
                refine lv_aload_n hx hb dX9_command_105 rfl (lv_at hl 0 rfl) ?_
                refine va_get (D := D) (ci := 7) (C := RX9) (T := TX9) (N := 10) hx hb hts w_2 hown hK hP 0 rfl rfl 9 (by decide) w_3 (fun _ h9 => h9) rfl dX9_command_106 ?_
                refine lv_iconst (v := 0) hx hb dX9_command_109 (by decide) ?_
                refine va_iald hx hb hK hP 5 0 rfl rfl (vp_d rfl) dX9_command_110 ?_
                refine W.eq (g2 := F0 m 111 ls [.int (Q 0), .ref o]) rfl ?_
                refine callVi (As := [.int (Q 0)]) (rest := []) (mX9_adds l D cI cC cS _ o q1 q2 q3 q4 q5 S Bg Pa Tx Q st ln u_33 u_34 rs (Q 0) ho.1) ⟨hx, hb, hml, hown, hts⟩ (cwV 1 hts gX9_command_X9_adds rfl rfl rfl (by decide +kernel) ⟨Nat.le_of_ble_eq_true rfl, Nat.le_of_ble_eq_true rfl⟩) X0_blind (fun _ _ _ => trivial) hP hK hD hS hA hl [0, 1, 2, 3, 4, 5] rfl rfl 0 7 rfl rfl rfl rfl rfl (Nat.le_of_ble_eq_true rfl) dX9_command_111 ⟨Nat.zero_le _, Nat.zero_le _⟩ (fun _ => rfl) (fun u_ H locs hk37 hP hD hS => ?_)
                obtain ⟨r_36, u_37⟩ := u_
                have hP : va_P D vwCl [(o, .inr (7, [.ref q1, .ref q2, .ref q3, .int st, .ref q4, .int ln, .int u_33, .int (bi u_34), .int rs, .ref q5])), (q1, .inl (cI, 314, .inl u_37)), (q2, .inl (cI, 314, .inl Bg)), (q3, .inl (cI, 1256, .inl Pa)), (q4, .inl (cI, 80, .inl Tx)), (q5, .inl (cI, 5, .inl Q))] H := hP
                have hD : va_D Fr [(o, .inr (7, [.ref q1, .ref q2, .ref q3, .int st, .ref q4, .int ln, .int u_33, .int (bi u_34), .int rs, .ref q5])), (q1, .inl (cI, 314, .inl u_37)), (q2, .inl (cI, 314, .inl Bg)), (q3, .inl (cI, 1256, .inl Pa)), (q4, .inl (cI, 80, .inl Tx)), (q5, .inl (cI, 5, .inl Q))] := hD
                refine W.eq (g2 := F0 m 114 ls [.int r_36]) rfl ?_
                exact endI hx hb hr hlk hP hK hD hS dX9_command_114 (r_36, u_37, Q, u_33, u_34) rfl ⟨(E_20).trans ((fX9_command_20_s S Tx Nu ln ps fu w x2 Q pp f).trans ((if_pos (bi_o c24)).trans ((bd1_e hk30).trans ((if_pos c32).trans ((bd2_e hk34).trans ((if_pos (bi_o c61)).trans ((if_pos c67_0).trans ((bd2_e hk37).trans rfl)))))))), rfl⟩
              by_cases c67_1 : w = 1
              · refine lv_tableIn (tgt := 115) hx hb dX9_command_67 (by rw [c67_1]; decide) (by rw [c67_1]; decide) (by rw [c67_1]; rfl) (by decide) ?_
                refine lv_aload_n hx hb dX9_command_115 rfl (lv_at hl 0 rfl) ?_
                refine lv_aload_n hx hb dX9_command_116 rfl (lv_at hl 0 rfl) ?_
                refine va_get (D := D) (ci := 7) (C := RX9) (T := TX9) (N := 10) hx hb hts w_2 hown hK hP 0 rfl rfl 9 (by decide) w_3 (fun _ h9 => h9) rfl dX9_command_117 ?_
                refine lv_iconst (v := 0) hx hb dX9_command_120 (by decide) ?_
                refine va_iald hx hb hK hP 5 0 rfl rfl (vp_d rfl) dX9_command_121 ?_
                refine W.eq (g2 := F0 m 122 ls [.int (Q 0), .ref o]) rfl ?_
                refine lv_aload_n hx hb dX9_command_122 rfl (lv_at hl 0 rfl) ?_
                refine va_get (D := D) (ci := 7) (C := RX9) (T := TX9) (N := 10) hx hb hts w_2 hown hK hP 0 rfl rfl 9 (by decide) w_3 (fun _ h9 => h9) rfl dX9_command_123 ?_
                refine lv_iconst (v := 1) hx hb dX9_command_126 (by decide) ?_
                refine va_iald hx hb hK hP 5 0 rfl rfl (vp_d rfl) dX9_command_127 ?_
                refine W.eq (g2 := F0 m 128 ls [.int (Q 1), .int (Q 0), .ref o]) rfl ?_
                refine lv_aload_n hx hb dX9_command_128 rfl (lv_at hl 0 rfl) ?_
                refine va_get (D := D) (ci := 7) (C := RX9) (T := TX9) (N := 10) hx hb hts w_2 hown hK hP 0 rfl rfl 9 (by decide) w_3 (fun _ h9 => h9) rfl dX9_command_129 ?_
                refine lv_iconst (v := 2) hx hb dX9_command_132 (by decide) ?_
                refine va_iald hx hb hK hP 5 0 rfl rfl (vp_d rfl) dX9_command_133 ?_
                refine W.eq (g2 := F0 m 134 ls [.int (Q 2), .int (Q 1), .int (Q 0), .ref o]) rfl ?_
                refine callVi (As := [.int (Q 0), .int (Q 1), .int (Q 2)]) (rest := []) (mX9_limits l D cI cC cS _ o q1 q2 q3 q4 q5 S Bg Pa Tx Q st ln u_33 u_34 rs (Q 0) (Q 1) (Q 2)) ⟨hx, hb, hml, hown, hts⟩ (cwV 3 hts gX9_command_X9_limits rfl rfl rfl (by decide +kernel) ⟨Nat.le_of_ble_eq_true rfl, Nat.le_of_ble_eq_true rfl⟩) X0_blind (fun _ _ _ => trivial) hP hK hD hS hA hl [0, 1, 2, 3, 4, 5] rfl rfl 0 7 rfl rfl rfl rfl rfl (Nat.le_of_ble_eq_true rfl) dX9_command_134 ⟨Nat.zero_le _, Nat.zero_le _⟩ (fun _ => rfl) (fun u_ H locs hk40 hP hD hS => ?_)
                obtain ⟨r_39, u_40⟩ := u_
                have hP : va_P D vwCl [(o, .inr (7, [.ref q1, .ref q2, .ref q3, .int st, .ref q4, .int ln, .int u_33, .int (bi u_34), .int rs, .ref q5])), (q1, .inl (cI, 314, .inl u_40)), (q2, .inl (cI, 314, .inl Bg)), (q3, .inl (cI, 1256, .inl Pa)), (q4, .inl (cI, 80, .inl Tx)), (q5, .inl (cI, 5, .inl Q))] H := hP
                have hD : va_D Fr [(o, .inr (7, [.ref q1, .ref q2, .ref q3, .int st, .ref q4, .int ln, .int u_33, .int (bi u_34), .int rs, .ref q5])), (q1, .inl (cI, 314, .inl u_40)), (q2, .inl (cI, 314, .inl Bg)), (q3, .inl (cI, 1256, .inl Pa)), (q4, .inl (cI, 80, .inl Tx)), (q5, .inl (cI, 5, .inl Q))] := hD
                refine W.eq (g2 := F0 m 137 ls [.int r_39]) rfl ?_
                exact endI hx hb hr hlk hP hK hD hS dX9_command_137 (r_39, u_40, Q, u_33, u_34) rfl ⟨(E_20).trans ((fX9_command_20_s S Tx Nu ln ps fu w x2 Q pp f).trans ((if_pos (bi_o c24)).trans ((bd1_e hk30).trans ((if_pos c32).trans ((bd2_e hk34).trans ((if_pos (bi_o c61)).trans ((if_neg c67_0).trans ((if_pos c67_1).trans ((bd2_e hk40).trans rfl))))))))), rfl⟩
              by_cases c67_2 : w = 2
              · refine lv_tableIn (tgt := 138) hx hb dX9_command_67 (by rw [c67_2]; decide) (by rw [c67_2]; decide) (by rw [c67_2]; rfl) (by decide) ?_
                refine lv_aload_n hx hb dX9_command_138 rfl (lv_at hl 0 rfl) ?_
                refine lv_aload_n hx hb dX9_command_139 rfl (lv_at hl 0 rfl) ?_
                refine va_get (D := D) (ci := 7) (C := RX9) (T := TX9) (N := 10) hx hb hts w_2 hown hK hP 0 rfl rfl 9 (by decide) w_3 (fun _ h9 => h9) rfl dX9_command_140 ?_
                refine lv_iconst (v := 0) hx hb dX9_command_143 (by decide) ?_
                refine va_iald hx hb hK hP 5 0 rfl rfl (vp_d rfl) dX9_command_144 ?_
                refine W.eq (g2 := F0 m 145 ls [.int (Q 0), .ref o]) rfl ?_
                refine lv_aload_n hx hb dX9_command_145 rfl (lv_at hl 0 rfl) ?_
                refine va_get (D := D) (ci := 7) (C := RX9) (T := TX9) (N := 10) hx hb hts w_2 hown hK hP 0 rfl rfl 9 (by decide) w_3 (fun _ h9 => h9) rfl dX9_command_146 ?_
                refine lv_iconst (v := 1) hx hb dX9_command_149 (by decide) ?_
                refine va_iald hx hb hK hP 5 0 rfl rfl (vp_d rfl) dX9_command_150 ?_
                refine W.eq (g2 := F0 m 151 ls [.int (Q 1), .int (Q 0), .ref o]) rfl ?_
                refine lv_aload_n hx hb dX9_command_151 rfl (lv_at hl 0 rfl) ?_
                refine va_get (D := D) (ci := 7) (C := RX9) (T := TX9) (N := 10) hx hb hts w_2 hown hK hP 0 rfl rfl 9 (by decide) w_3 (fun _ h9 => h9) rfl dX9_command_152 ?_
                refine lv_iconst (v := 2) hx hb dX9_command_155 (by decide) ?_
                refine va_iald hx hb hK hP 5 0 rfl rfl (vp_d rfl) dX9_command_156 ?_
                refine W.eq (g2 := F0 m 157 ls [.int (Q 2), .int (Q 1), .int (Q 0), .ref o]) rfl ?_
                refine lv_iload_n hx hb dX9_command_157 rfl (lv_at hl 1 rfl) ?_
                refine lv_iconst (v := 2) hx hb dX9_command_158 (by decide) ?_
                refine lv_isub hx hb dX9_command_159 ?_
                refine callVi (As := [.int (Q 0), .int (Q 1), .int (Q 2), .int (w - 2)]) (rest := []) (mX9_calls l D cI cC cS _ o q1 q2 q3 q4 q5 S Bg Pa Tx Q st ln u_33 u_34 rs (Q 0) (Q 1) (Q 2) (w - 2) ho) ⟨hx, hb, hml, hown, hts⟩ (cwV 4 hts gX9_command_X9_calls rfl rfl rfl (by decide +kernel) ⟨Nat.le_of_ble_eq_true rfl, Nat.le_of_ble_eq_true rfl⟩) X0_blind (fun _ _ _ => trivial) hP hK hD hS hA hl [0, 1, 2, 3, 4, 5] rfl rfl 0 7 rfl rfl rfl rfl rfl (Nat.le_of_ble_eq_true rfl) dX9_command_160 ⟨Nat.zero_le _, Nat.zero_le _⟩ (fun _ => rfl) (fun u_ H locs hk43 hP hD hS => ?_)
                obtain ⟨r_42, u_43⟩ := u_
                have hP : va_P D vwCl [(o, .inr (7, [.ref q1, .ref q2, .ref q3, .int st, .ref q4, .int ln, .int u_33, .int (bi u_34), .int rs, .ref q5])), (q1, .inl (cI, 314, .inl u_43)), (q2, .inl (cI, 314, .inl Bg)), (q3, .inl (cI, 1256, .inl Pa)), (q4, .inl (cI, 80, .inl Tx)), (q5, .inl (cI, 5, .inl Q))] H := hP
                have hD : va_D Fr [(o, .inr (7, [.ref q1, .ref q2, .ref q3, .int st, .ref q4, .int ln, .int u_33, .int (bi u_34), .int rs, .ref q5])), (q1, .inl (cI, 314, .inl u_43)), (q2, .inl (cI, 314, .inl Bg)), (q3, .inl (cI, 1256, .inl Pa)), (q4, .inl (cI, 80, .inl Tx)), (q5, .inl (cI, 5, .inl Q))] := hD
                refine W.eq (g2 := F0 m 163 ls [.int r_42]) rfl ?_
                exact endI hx hb hr hlk hP hK hD hS dX9_command_163 (r_42, u_43, Q, u_33, u_34) rfl ⟨(E_20).trans ((fX9_command_20_s S Tx Nu ln ps fu w x2 Q pp f).trans ((if_pos (bi_o c24)).trans ((bd1_e hk30).trans ((if_pos c32).trans ((bd2_e hk34).trans ((if_pos (bi_o c61)).trans ((if_neg c67_0).trans ((if_neg c67_1).trans ((if_pos c67_2).trans ((bd2_e hk43).trans rfl)))))))))), rfl⟩
              by_cases c67_3 : w = 3
              · refine lv_tableIn (tgt := 138) hx hb dX9_command_67 (by rw [c67_3]; decide) (by rw [c67_3]; decide) (by rw [c67_3]; rfl) (by decide) ?_
                refine lv_aload_n hx hb dX9_command_138 rfl (lv_at hl 0 rfl) ?_
                refine lv_aload_n hx hb dX9_command_139 rfl (lv_at hl 0 rfl) ?_
                refine va_get (D := D) (ci := 7) (C := RX9) (T := TX9) (N := 10) hx hb hts w_2 hown hK hP 0 rfl rfl 9 (by decide) w_3 (fun _ h9 => h9) rfl dX9_command_140 ?_
                refine lv_iconst (v := 0) hx hb dX9_command_143 (by decide) ?_
                refine va_iald hx hb hK hP 5 0 rfl rfl (vp_d rfl) dX9_command_144 ?_
                refine W.eq (g2 := F0 m 145 ls [.int (Q 0), .ref o]) rfl ?_
                refine lv_aload_n hx hb dX9_command_145 rfl (lv_at hl 0 rfl) ?_
                refine va_get (D := D) (ci := 7) (C := RX9) (T := TX9) (N := 10) hx hb hts w_2 hown hK hP 0 rfl rfl 9 (by decide) w_3 (fun _ h9 => h9) rfl dX9_command_146 ?_
                refine lv_iconst (v := 1) hx hb dX9_command_149 (by decide) ?_
                refine va_iald hx hb hK hP 5 0 rfl rfl (vp_d rfl) dX9_command_150 ?_
                refine W.eq (g2 := F0 m 151 ls [.int (Q 1), .int (Q 0), .ref o]) rfl ?_
                refine lv_aload_n hx hb dX9_command_151 rfl (lv_at hl 0 rfl) ?_
                refine va_get (D := D) (ci := 7) (C := RX9) (T := TX9) (N := 10) hx hb hts w_2 hown hK hP 0 rfl rfl 9 (by decide) w_3 (fun _ h9 => h9) rfl dX9_command_152 ?_
                refine lv_iconst (v := 2) hx hb dX9_command_155 (by decide) ?_
                refine va_iald hx hb hK hP 5 0 rfl rfl (vp_d rfl) dX9_command_156 ?_
                refine W.eq (g2 := F0 m 157 ls [.int (Q 2), .int (Q 1), .int (Q 0), .ref o]) rfl ?_
                refine lv_iload_n hx hb dX9_command_157 rfl (lv_at hl 1 rfl) ?_
                refine lv_iconst (v := 2) hx hb dX9_command_158 (by decide) ?_
                refine lv_isub hx hb dX9_command_159 ?_
                refine callVi (As := [.int (Q 0), .int (Q 1), .int (Q 2), .int (w - 2)]) (rest := []) (mX9_calls l D cI cC cS _ o q1 q2 q3 q4 q5 S Bg Pa Tx Q st ln u_33 u_34 rs (Q 0) (Q 1) (Q 2) (w - 2) ho) ⟨hx, hb, hml, hown, hts⟩ (cwV 4 hts gX9_command_X9_calls rfl rfl rfl (by decide +kernel) ⟨Nat.le_of_ble_eq_true rfl, Nat.le_of_ble_eq_true rfl⟩) X0_blind (fun _ _ _ => trivial) hP hK hD hS hA hl [0, 1, 2, 3, 4, 5] rfl rfl 0 7 rfl rfl rfl rfl rfl (Nat.le_of_ble_eq_true rfl) dX9_command_160 ⟨Nat.zero_le _, Nat.zero_le _⟩ (fun _ => rfl) (fun u_ H locs hk46 hP hD hS => ?_)
                obtain ⟨r_45, u_46⟩ := u_
                have hP : va_P D vwCl [(o, .inr (7, [.ref q1, .ref q2, .ref q3, .int st, .ref q4, .int ln, .int u_33, .int (bi u_34), .int rs, .ref q5])), (q1, .inl (cI, 314, .inl u_46)), (q2, .inl (cI, 314, .inl Bg)), (q3, .inl (cI, 1256, .inl Pa)), (q4, .inl (cI, 80, .inl Tx)), (q5, .inl (cI, 5, .inl Q))] H := hP
                have hD : va_D Fr [(o, .inr (7, [.ref q1, .ref q2, .ref q3, .int st, .ref q4, .int ln, .int u_33, .int (bi u_34), .int rs, .ref q5])), (q1, .inl (cI, 314, .inl u_46)), (q2, .inl (cI, 314, .inl Bg)), (q3, .inl (cI, 1256, .inl Pa)), (q4, .inl (cI, 80, .inl Tx)), (q5, .inl (cI, 5, .inl Q))] := hD
                refine W.eq (g2 := F0 m 163 ls [.int r_45]) rfl ?_
                exact endI hx hb hr hlk hP hK hD hS dX9_command_163 (r_45, u_46, Q, u_33, u_34) rfl ⟨(E_20).trans ((fX9_command_20_s S Tx Nu ln ps fu w x2 Q pp f).trans ((if_pos (bi_o c24)).trans ((bd1_e hk30).trans ((if_pos c32).trans ((bd2_e hk34).trans ((if_pos (bi_o c61)).trans ((if_neg c67_0).trans ((if_neg c67_1).trans ((if_neg c67_2).trans ((if_pos c67_3).trans ((bd2_e hk46).trans rfl))))))))))), rfl⟩
              by_cases c67_4 : w = 4
              · refine lv_tableIn (tgt := 164) hx hb dX9_command_67 (by rw [c67_4]; decide) (by rw [c67_4]; decide) (by rw [c67_4]; rfl) (by decide) ?_
                refine lv_aload_n hx hb dX9_command_164 rfl (lv_at hl 0 rfl) ?_
                refine lv_aload_n hx hb dX9_command_165 rfl (lv_at hl 0 rfl) ?_
                refine va_get (D := D) (ci := 7) (C := RX9) (T := TX9) (N := 10) hx hb hts w_2 hown hK hP 0 rfl rfl 9 (by decide) w_3 (fun _ h9 => h9) rfl dX9_command_166 ?_
                refine lv_iconst (v := 0) hx hb dX9_command_169 (by decide) ?_
                refine va_iald hx hb hK hP 5 0 rfl rfl (vp_d rfl) dX9_command_170 ?_
                refine W.eq (g2 := F0 m 171 ls [.int (Q 0), .ref o]) rfl ?_
                refine lv_aload_n hx hb dX9_command_171 rfl (lv_at hl 0 rfl) ?_
                refine va_get (D := D) (ci := 7) (C := RX9) (T := TX9) (N := 10) hx hb hts w_2 hown hK hP 0 rfl rfl 9 (by decide) w_3 (fun _ h9 => h9) rfl dX9_command_172 ?_
                refine lv_iconst (v := 1) hx hb dX9_command_175 (by decide) ?_
                refine va_iald hx hb hK hP 5 0 rfl rfl (vp_d rfl) dX9_command_176 ?_
                refine W.eq (g2 := F0 m 177 ls [.int (Q 1), .int (Q 0), .ref o]) rfl ?_
                refine lv_aload_n hx hb dX9_command_177 rfl (lv_at hl 0 rfl) ?_
                refine va_get (D := D) (ci := 7) (C := RX9) (T := TX9) (N := 10) hx hb hts w_2 hown hK hP 0 rfl rfl 9 (by decide) w_3 (fun _ h9 => h9) rfl dX9_command_178 ?_
                refine lv_iconst (v := 2) hx hb dX9_command_181 (by decide) ?_
                refine va_iald hx hb hK hP 5 0 rfl rfl (vp_d rfl) dX9_command_182 ?_
                refine W.eq (g2 := F0 m 183 ls [.int (Q 2), .int (Q 1), .int (Q 0), .ref o]) rfl ?_
                refine lv_aload_n hx hb dX9_command_183 rfl (lv_at hl 0 rfl) ?_
                refine va_get (D := D) (ci := 7) (C := RX9) (T := TX9) (N := 10) hx hb hts w_2 hown hK hP 0 rfl rfl 9 (by decide) w_3 (fun _ h9 => h9) rfl dX9_command_184 ?_
                refine lv_iconst (v := 3) hx hb dX9_command_187 (by decide) ?_
                refine va_iald hx hb hK hP 5 0 rfl rfl (vp_d rfl) dX9_command_188 ?_
                refine W.eq (g2 := F0 m 189 ls [.int (Q 3), .int (Q 2), .int (Q 1), .int (Q 0), .ref o]) rfl ?_
                refine lv_iconst (v := 2) hx hb dX9_command_189 (by decide) ?_
                refine lv_iadd hx hb dX9_command_190 ?_
                refine callVi (As := [.int (Q 0), .int (Q 1), .int (Q 2), .int ((Q 3) + 2)]) (rest := []) (mX9_calls l D cI cC cS _ o q1 q2 q3 q4 q5 S Bg Pa Tx Q st ln u_33 u_34 rs (Q 0) (Q 1) (Q 2) ((Q 3) + 2) ho) ⟨hx, hb, hml, hown, hts⟩ (cwV 4 hts gX9_command_X9_calls rfl rfl rfl (by decide +kernel) ⟨Nat.le_of_ble_eq_true rfl, Nat.le_of_ble_eq_true rfl⟩) X0_blind (fun _ _ _ => trivial) hP hK hD hS hA hl [0, 1, 2, 3, 4, 5] rfl rfl 0 7 rfl rfl rfl rfl rfl (Nat.le_of_ble_eq_true rfl) dX9_command_191 ⟨Nat.zero_le _, Nat.zero_le _⟩ (fun _ => rfl) (fun u_ H locs hk49 hP hD hS => ?_)
                obtain ⟨r_48, u_49⟩ := u_
                have hP : va_P D vwCl [(o, .inr (7, [.ref q1, .ref q2, .ref q3, .int st, .ref q4, .int ln, .int u_33, .int (bi u_34), .int rs, .ref q5])), (q1, .inl (cI, 314, .inl u_49)), (q2, .inl (cI, 314, .inl Bg)), (q3, .inl (cI, 1256, .inl Pa)), (q4, .inl (cI, 80, .inl Tx)), (q5, .inl (cI, 5, .inl Q))] H := hP
                have hD : va_D Fr [(o, .inr (7, [.ref q1, .ref q2, .ref q3, .int st, .ref q4, .int ln, .int u_33, .int (bi u_34), .int rs, .ref q5])), (q1, .inl (cI, 314, .inl u_49)), (q2, .inl (cI, 314, .inl Bg)), (q3, .inl (cI, 1256, .inl Pa)), (q4, .inl (cI, 80, .inl Tx)), (q5, .inl (cI, 5, .inl Q))] := hD
                refine W.eq (g2 := F0 m 194 ls [.int r_48]) rfl ?_
                exact endI hx hb hr hlk hP hK hD hS dX9_command_194 (r_48, u_49, Q, u_33, u_34) rfl ⟨(E_20).trans ((fX9_command_20_s S Tx Nu ln ps fu w x2 Q pp f).trans ((if_pos (bi_o c24)).trans ((bd1_e hk30).trans ((if_pos c32).trans ((bd2_e hk34).trans ((if_pos (bi_o c61)).trans ((if_neg c67_0).trans ((if_neg c67_1).trans ((if_neg c67_2).trans ((if_neg c67_3).trans ((if_pos c67_4).trans ((bd2_e hk49).trans rfl)))))))))))), rfl⟩
              by_cases c67_5 : w = 5
              · refine lv_tableIn (tgt := 195) hx hb dX9_command_67 (by rw [c67_5]; decide) (by rw [c67_5]; decide) (by rw [c67_5]; rfl) (by decide) ?_
                refine lv_aload_n hx hb dX9_command_195 rfl (lv_at hl 0 rfl) ?_
                refine lv_aload_n hx hb dX9_command_196 rfl (lv_at hl 0 rfl) ?_
                refine va_get (D := D) (ci := 7) (C := RX9) (T := TX9) (N := 10) hx hb hts w_2 hown hK hP 0 rfl rfl 9 (by decide) w_3 (fun _ h9 => h9) rfl dX9_command_197 ?_
                refine lv_iconst (v := 0) hx hb dX9_command_200 (by decide) ?_
                refine va_iald hx hb hK hP 5 0 rfl rfl (vp_d rfl) dX9_command_201 ?_
                refine W.eq (g2 := F0 m 202 ls [.int (Q 0), .ref o]) rfl ?_
                refine lv_aload_n hx hb dX9_command_202 rfl (lv_at hl 0 rfl) ?_
                refine va_get (D := D) (ci := 7) (C := RX9) (T := TX9) (N := 10) hx hb hts w_2 hown hK hP 0 rfl rfl 9 (by decide) w_3 (fun _ h9 => h9) rfl dX9_command_203 ?_
                refine lv_iconst (v := 1) hx hb dX9_command_206 (by decide) ?_
                refine va_iald hx hb hK hP 5 0 rfl rfl (vp_d rfl) dX9_command_207 ?_
                refine W.eq (g2 := F0 m 208 ls [.int (Q 1), .int (Q 0), .ref o]) rfl ?_
                refine lv_aload_n hx hb dX9_command_208 rfl (lv_at hl 0 rfl) ?_
                refine va_get (D := D) (ci := 7) (C := RX9) (T := TX9) (N := 10) hx hb hts w_2 hown hK hP 0 rfl rfl 9 (by decide) w_3 (fun _ h9 => h9) rfl dX9_command_209 ?_
                refine lv_iconst (v := 2) hx hb dX9_command_212 (by decide) ?_
                refine va_iald hx hb hK hP 5 0 rfl rfl (vp_d rfl) dX9_command_213 ?_
                refine W.eq (g2 := F0 m 214 ls [.int (Q 2), .int (Q 1), .int (Q 0), .ref o]) rfl ?_
                refine lv_aload_n hx hb dX9_command_214 rfl (lv_at hl 0 rfl) ?_
                refine va_get (D := D) (ci := 7) (C := RX9) (T := TX9) (N := 10) hx hb hts w_2 hown hK hP 0 rfl rfl 9 (by decide) w_3 (fun _ h9 => h9) rfl dX9_command_215 ?_
                refine lv_iconst (v := 3) hx hb dX9_command_218 (by decide) ?_
                refine va_iald hx hb hK hP 5 0 rfl rfl (vp_d rfl) dX9_command_219 ?_
                refine W.eq (g2 := F0 m 220 ls [.int (Q 3), .int (Q 2), .int (Q 1), .int (Q 0), .ref o]) rfl ?_
                refine lv_aload_n hx hb dX9_command_220 rfl (lv_at hl 0 rfl) ?_
                refine va_get (D := D) (ci := 7) (C := RX9) (T := TX9) (N := 10) hx hb hts w_2 hown hK hP 0 rfl rfl 9 (by decide) w_3 (fun _ h9 => h9) rfl dX9_command_221 ?_
                refine lv_iconst (v := 4) hx hb dX9_command_224 (by decide) ?_
                refine va_iald hx hb hK hP 5 0 rfl rfl (vp_d rfl) dX9_command_225 ?_
                refine W.eq (g2 := F0 m 226 ls [.int (Q 4), .int (Q 3), .int (Q 2), .int (Q 1), .int (Q 0), .ref o]) rfl ?_
                refine callVi (As := [.int (Q 0), .int (Q 1), .int (Q 2), .int (Q 3), .int (Q 4)]) (rest := []) (mX9_fixes l D cI cC cS _ o q1 q2 q3 q4 q5 S Bg Pa Tx Q st ln u_33 u_34 rs (Q 0) (Q 1) (Q 2) (Q 3) (Q 4) ho) ⟨hx, hb, hml, hown, hts⟩ (cwV 5 hts gX9_command_X9_fixes rfl rfl rfl (by decide +kernel) ⟨Nat.le_of_ble_eq_true rfl, Nat.le_of_ble_eq_true rfl⟩) X0_blind (fun _ _ _ => trivial) hP hK hD hS hA hl [0, 1, 2, 3, 4, 5] rfl rfl 0 7 rfl rfl rfl rfl rfl (Nat.le_of_ble_eq_true rfl) dX9_command_226 ⟨Nat.zero_le _, Nat.zero_le _⟩ (fun _ => rfl) (fun u_ H locs hk52 hP hD hS => ?_)
                obtain ⟨r_51, u_52⟩ := u_
                have hP : va_P D vwCl [(o, .inr (7, [.ref q1, .ref q2, .ref q3, .int st, .ref q4, .int ln, .int u_33, .int (bi u_34), .int rs, .ref q5])), (q1, .inl (cI, 314, .inl u_52)), (q2, .inl (cI, 314, .inl Bg)), (q3, .inl (cI, 1256, .inl Pa)), (q4, .inl (cI, 80, .inl Tx)), (q5, .inl (cI, 5, .inl Q))] H := hP
                have hD : va_D Fr [(o, .inr (7, [.ref q1, .ref q2, .ref q3, .int st, .ref q4, .int ln, .int u_33, .int (bi u_34), .int rs, .ref q5])), (q1, .inl (cI, 314, .inl u_52)), (q2, .inl (cI, 314, .inl Bg)), (q3, .inl (cI, 1256, .inl Pa)), (q4, .inl (cI, 80, .inl Tx)), (q5, .inl (cI, 5, .inl Q))] := hD
                refine W.eq (g2 := F0 m 229 ls [.int r_51]) rfl ?_
                exact endI hx hb hr hlk hP hK hD hS dX9_command_229 (r_51, u_52, Q, u_33, u_34) rfl ⟨(E_20).trans ((fX9_command_20_s S Tx Nu ln ps fu w x2 Q pp f).trans ((if_pos (bi_o c24)).trans ((bd1_e hk30).trans ((if_pos c32).trans ((bd2_e hk34).trans ((if_pos (bi_o c61)).trans ((if_neg c67_0).trans ((if_neg c67_1).trans ((if_neg c67_2).trans ((if_neg c67_3).trans ((if_neg c67_4).trans ((if_pos c67_5).trans ((bd2_e hk52).trans rfl))))))))))))), rfl⟩
              refine lv_tableOut (tgt := 230) hx hb dX9_command_67 (tab_out (lo := 0) (hi := 5) (by decide) (fun k kk1 kk2 => ?_)) (by decide) ?_
              · rcases (show k = 0 ∨ k = 1 ∨ k = 2 ∨ k = 3 ∨ k = 4 ∨ k = 5 by omega) with rfl | rfl | rfl | rfl | rfl | rfl
                · exact ne_ti c67_0 (by decide)
                · exact ne_ti c67_1 (by decide)
                · exact ne_ti c67_2 (by decide)
                · exact ne_ti c67_3 (by decide)
                · exact ne_ti c67_4 (by decide)
                · exact ne_ti c67_5 (by decide)
              refine lv_aload_n hx hb dX9_command_230 rfl (lv_at hl 0 rfl) ?_
              refine lv_aload_n hx hb dX9_command_231 rfl (lv_at hl 0 rfl) ?_
              refine va_get (D := D) (ci := 7) (C := RX9) (T := TX9) (N := 10) hx hb hts w_2 hown hK hP 0 rfl rfl 9 (by decide) w_3 (fun _ h9 => h9) rfl dX9_command_232 ?_
              refine lv_iconst (v := 0) hx hb dX9_command_235 (by decide) ?_
              refine va_iald hx hb hK hP 5 0 rfl rfl (vp_d rfl) dX9_command_236 ?_
              refine W.eq (g2 := F0 m 237 ls [.int (Q 0), .ref o]) rfl ?_
              refine callVi (As := [.int (Q 0)]) (rest := []) (mX9_passes l D cI cC cS _ o q1 q2 q3 q4 q5 S Bg Pa Tx Q st ln u_33 u_34 rs (Q 0) ho.2.1) ⟨hx, hb, hml, hown, hts⟩ (cwV 1 hts gX9_command_X9_passes rfl rfl rfl (by decide +kernel) ⟨Nat.le_of_ble_eq_true rfl, Nat.le_of_ble_eq_true rfl⟩) X0_blind (fun _ _ _ => trivial) hP hK hD hS hA hl [0, 1, 2, 3, 4, 5] rfl rfl 0 7 rfl rfl rfl rfl rfl (Nat.le_of_ble_eq_true rfl) dX9_command_237 ⟨Nat.zero_le _, Nat.zero_le _⟩ (fun _ => rfl) (fun u_ H locs hk55 hP hD hS => ?_)
              obtain ⟨r_54, u_55⟩ := u_
              have hP : va_P D vwCl [(o, .inr (7, [.ref q1, .ref q2, .ref q3, .int st, .ref q4, .int ln, .int u_33, .int (bi u_34), .int rs, .ref q5])), (q1, .inl (cI, 314, .inl u_55)), (q2, .inl (cI, 314, .inl Bg)), (q3, .inl (cI, 1256, .inl Pa)), (q4, .inl (cI, 80, .inl Tx)), (q5, .inl (cI, 5, .inl Q))] H := hP
              have hD : va_D Fr [(o, .inr (7, [.ref q1, .ref q2, .ref q3, .int st, .ref q4, .int ln, .int u_33, .int (bi u_34), .int rs, .ref q5])), (q1, .inl (cI, 314, .inl u_55)), (q2, .inl (cI, 314, .inl Bg)), (q3, .inl (cI, 1256, .inl Pa)), (q4, .inl (cI, 80, .inl Tx)), (q5, .inl (cI, 5, .inl Q))] := hD
              refine W.eq (g2 := F0 m 240 ls [.int r_54]) rfl ?_
              exact endI hx hb hr hlk hP hK hD hS dX9_command_240 (r_54, u_55, Q, u_33, u_34) rfl ⟨(E_20).trans ((fX9_command_20_s S Tx Nu ln ps fu w x2 Q pp f).trans ((if_pos (bi_o c24)).trans ((bd1_e hk30).trans ((if_pos c32).trans ((bd2_e hk34).trans ((if_pos (bi_o c61)).trans ((if_neg c67_0).trans ((if_neg c67_1).trans ((if_neg c67_2).trans ((if_neg c67_3).trans ((if_neg c67_4).trans ((if_neg c67_5).trans ((bd2_e hk55).trans rfl))))))))))))), rfl⟩
            · refine lv_iconst (v := 0) hx hb dX9_command_64 (by decide) ?_
              exact endI hx hb hr hlk hP hK hD hS dX9_command_65 (0, S, Q, u_33, u_34) rfl ⟨(E_20).trans ((fX9_command_20_s S Tx Nu ln ps fu w x2 Q pp f).trans ((if_pos (bi_o c24)).trans ((bd1_e hk30).trans ((if_pos c32).trans ((bd2_e hk34).trans ((if_neg (bi_z c61)).trans rfl)))))), rfl⟩
          · refine lv_aload_n hx hb dX9_command_35 rfl (lv_at hl 0 rfl) ?_
            refine va_get (D := D) (ci := 7) (C := RX9) (T := TX9) (N := 10) hx hb hts w_2 hown hK hP 0 rfl rfl 9 (by decide) w_3 (fun _ h9 => h9) rfl dX9_command_36 ?_
            refine lv_iload_n hx hb dX9_command_39 rfl (lv_at hl 2 rfl) ?_
            refine lv_aload_n hx hb dX9_command_40 rfl (lv_at hl 0 rfl) ?_
            refine callVi (As := []) (rest := [.int x2, .ref q5]) (mX9_readNumber l D cI cC cS _ o q1 q2 q3 q4 q5 S Bg Pa Tx Q st ln pp f rs hL (cm_q hi)) ⟨hx, hb, hml, hown, hts⟩ (cwV 0 hts gX9_command_X9_readNumber rfl rfl rfl (by decide +kernel) ⟨Nat.le_of_ble_eq_true rfl, Nat.le_of_ble_eq_true rfl⟩) X0_blind (fun _ _ _ => trivial) hP hK hD hS hA hl [0, 1, 2, 3, 4, 5] rfl rfl 0 7 rfl rfl rfl rfl rfl (Nat.le_of_ble_eq_true rfl) dX9_command_41 ⟨Nat.zero_le _, Nat.zero_le _⟩ (fun _ => rfl) (fun u_ H locs hk59 hP hD hS => ?_)
            obtain ⟨r_57, u_58, u_59⟩ := u_
            have hP : va_P D vwCl [(o, .inr (7, [.ref q1, .ref q2, .ref q3, .int st, .ref q4, .int ln, .int u_58, .int (bi u_59), .int rs, .ref q5])), (q1, .inl (cI, 314, .inl S)), (q2, .inl (cI, 314, .inl Bg)), (q3, .inl (cI, 1256, .inl Pa)), (q4, .inl (cI, 80, .inl Tx)), (q5, .inl (cI, 5, .inl Q))] H := hP
            have hD : va_D Fr [(o, .inr (7, [.ref q1, .ref q2, .ref q3, .int st, .ref q4, .int ln, .int u_58, .int (bi u_59), .int rs, .ref q5])), (q1, .inl (cI, 314, .inl S)), (q2, .inl (cI, 314, .inl Bg)), (q3, .inl (cI, 1256, .inl Pa)), (q4, .inl (cI, 80, .inl Tx)), (q5, .inl (cI, 5, .inl Q))] := hD
            refine W.eq (g2 := F0 m 44 ls [.int r_57, .int x2, .ref q5]) rfl ?_
            refine va_iast hx hb hK hP hD hS 5 0 rfl rfl (cm_x hi hk30 hw c32) dX9_command_44 (fun H locs hP hD hS => ?_)
            have hP : va_P D vwCl [(o, .inr (7, [.ref q1, .ref q2, .ref q3, .int st, .ref q4, .int ln, .int u_58, .int (bi u_59), .int rs, .ref q5])), (q1, .inl (cI, 314, .inl S)), (q2, .inl (cI, 314, .inl Bg)), (q3, .inl (cI, 1256, .inl Pa)), (q4, .inl (cI, 80, .inl Tx)), (q5, .inl (cI, 5, .inl (upd Q x2.toNatClampNeg r_57)))] H := hP
            have hD : va_D Fr [(o, .inr (7, [.ref q1, .ref q2, .ref q3, .int st, .ref q4, .int ln, .int u_58, .int (bi u_59), .int rs, .ref q5])), (q1, .inl (cI, 314, .inl S)), (q2, .inl (cI, 314, .inl Bg)), (q3, .inl (cI, 1256, .inl Pa)), (q4, .inl (cI, 80, .inl Tx)), (q5, .inl (cI, 5, .inl (upd Q x2.toNatClampNeg r_57)))] := hD
            refine lv_iinc (v := x2 + 1) (lv' := [(2, .int (x2 + 1)), (0, .ref o), (1, .int w)]) hx hb dX9_command_45 hl (k := 2) rfl (by rfl) (by decide) rfl (fun ls hl => ?_)
            refine lv_goto (tgt := 20) hx hb dX9_command_48 (by decide) ?_
            exact ih_20 w (x2 + 1) (upd Q x2.toNatClampNeg r_57) u_58 u_59 _ _ ls hP hD hS (lv_sub hl [1, 2, 0] rfl) (cm_1 hi hk30 hw c32 hk59) hw (Nat.lt_of_lt_of_le (lp_dec (by rw [hk30]; exact c32)) (Nat.le_of_lt_succ hm_20)) ((E_20).trans ((fX9_command_20_s S Tx Nu ln ps fu w x2 Q pp f).trans ((if_pos (bi_o c24)).trans ((bd1_e hk30).trans ((if_neg c32).trans ((bd3_e hk59).trans rfl))))))
    exact K_20 (((fX9_manyOf r_2).toInt - (0 : Int32).toInt).toNat + 1) r_2 0 Nu u_3 false _ _ ls hP hD hS (lv_sub hl [2, 1, 0] rfl) (cm_0 hk3 hq) (cm_m hk3 hq) (Nat.lt_succ_self _) ((bd2_e hk3).trans ((if_pos c7).trans rfl))
  · refine lv_iconst (v := 1) hx hb dX9_command_10 (by decide) ?_
    refine lv_goto (tgt := 15) hx hb dX9_command_11 (by decide) ?_
    refine va_put (D := D) (ci := 7) (v := .int 1) (ty := .boolean) (C := RX9) (T := TX9) (N := 10) hx hb hts w_2 tyX9 tyX9_ok nmX9 hown hK hP hD hS 0 rfl rfl 7 (by decide) w_1 (fun _ h9 => h9) rfl (by decide +kernel) rfl rfl (Nat.le_of_ble_eq_true rfl) dX9_command_15 (fun H locs hP hD hS => ?_)
    have hP : va_P D vwCl [(o, .inr (7, [.ref q1, .ref q2, .ref q3, .int st, .ref q4, .int ln, .int u_3, .int 1, .int rs, .ref q5])), (q1, .inl (cI, 314, .inl S)), (q2, .inl (cI, 314, .inl Bg)), (q3, .inl (cI, 1256, .inl Pa)), (q4, .inl (cI, 80, .inl Tx)), (q5, .inl (cI, 5, .inl Nu))] H := hP
    have hD : va_D Fr [(o, .inr (7, [.ref q1, .ref q2, .ref q3, .int st, .ref q4, .int ln, .int u_3, .int 1, .int rs, .ref q5])), (q1, .inl (cI, 314, .inl S)), (q2, .inl (cI, 314, .inl Bg)), (q3, .inl (cI, 1256, .inl Pa)), (q4, .inl (cI, 80, .inl Tx)), (q5, .inl (cI, 5, .inl Nu))] := hD
    refine lv_iconst (v := 0) hx hb dX9_command_18 (by decide) ?_
    refine lv_istore_n (lv' := [(2, .int 0), (1, .int r_2), (0, .ref o)]) hx hb dX9_command_19 rfl hl (by decide) rfl (fun ls hl => ?_)
    have K_20 : ∀ (fu : Nat) (w : Int32) (x2 : Int32) (Q : Nat → Int32) (pp : Int32) (f : Bool) (H : Heap) (locs : List Loc) (ls : Array Slot), va_P D vwCl [(o, .inr (7, [.ref q1, .ref q2, .ref q3, .int st, .ref q4, .int ln, .int pp, .int (bi f), .int rs, .ref q5])), (q1, .inl (cI, 314, .inl S)), (q2, .inl (cI, 314, .inl Bg)), (q3, .inl (cI, 1256, .inl Pa)), (q4, .inl (cI, 80, .inl Tx)), (q5, .inl (cI, 5, .inl Q))] H → va_D Fr [(o, .inr (7, [.ref q1, .ref q2, .ref q3, .int st, .ref q4, .int ln, .int pp, .int (bi f), .int rs, .ref q5])), (q1, .inl (cI, 314, .inl S)), (q2, .inl (cI, 314, .inl Bg)), (q3, .inl (cI, 1256, .inl Pa)), (q4, .inl (cI, 80, .inl Tx)), (q5, .inl (cI, 5, .inl Q))] → va_S Fr s.heap H locs → lv_has ls 3 [(0, .ref o), (1, .int w), (2, .int x2)] → (cmI pp x2) → (vp_in (fX9_manyOf w) 6) → ((fX9_manyOf w).toInt - x2.toInt).toNat < fu → fX9_command S Tx Nu ln ps = fX9_command_20 S Tx Nu ln ps fu w x2 Q pp f → W p l e (headSpec wsX9_command ({ frames := 6, cells := 0, slots := 0, locals := 133 } : Jvm.Room)).room s m ([.ref o] : List Value).toArray below meth c H locs 0 0 (MQ below (qI D (TY cI cC cS) (fun (r : Int32) (u : Int32 × (Nat → Int32) × (Nat → Int32) × Int32 × Bool) => fX9_command S Tx Nu ln ps = u ∧ r = u.1) (fun u => [(o, .inr (7, [.ref q1, .ref q2, .ref q3, .int st, .ref q4, .int ln, .int u.2.2.2.1, .int (bi u.2.2.2.2), .int rs, .ref q5])), (q1, .inl (cI, 314, .inl u.2.1)), (q2, .inl (cI, 314, .inl Bg)), (q3, .inl (cI, 1256, .inl Pa)), (q4, .inl (cI, 80, .inl Tx)), (q5, .inl (cI, 5, .inl u.2.2.1))]) Fr) ([.ref o] : List Value).toArray s 0 0 Fr) (F0 m 20 ls []) := by
      intro fu
      induction fu with
      | zero => intros; exact absurd (by assumption) (Nat.not_lt_zero _)
      | succ fu ih_20 =>
        intro w x2 Q pp f H locs ls hP hD hS hl hi hw hm_20 E_20
        refine lv_aload_n hx hb dX9_command_20 rfl (lv_at hl 0 rfl) ?_
        refine va_get (D := D) (ci := 7) (C := RX9) (T := TX9) (N := 10) hx hb hts w_2 hown hK hP 0 rfl rfl 7 (by decide) w_1 (fun _ h9 => h9) rfl dX9_command_21 ?_
        refine lv_if_eq (tgt := 51) hx hb dX9_command_24 (by decide) (fun c24 => ?_) (fun c24 => ?_)
        · refine lv_aload_n hx hb dX9_command_51 rfl (lv_at hl 0 rfl) ?_
          refine lv_bipush (v := 59) hx hb dX9_command_52 (by decide) ?_
          refine callVv (As := [.int 59]) (rest := []) (mX9_must l D cI cC cS _ o q1 q2 q3 q4 q5 S Bg Pa Tx Q st ln pp f rs 59 hL (cm_nn hi)) ⟨hx, hb, hml, hown, hts⟩ (cwV 1 hts gX9_command_X9_must rfl rfl rfl (by decide +kernel) ⟨Nat.le_of_ble_eq_true rfl, Nat.le_of_ble_eq_true rfl⟩) X0_blind (fun _ _ _ => trivial) hP hK hD hS hA hl [0, 1, 2, 3, 4, 5] rfl rfl 0 7 rfl rfl rfl rfl rfl (Nat.le_of_ble_eq_true rfl) dX9_command_54 ⟨Nat.zero_le _, Nat.zero_le _⟩ (fun _ => rfl) (fun u_ H locs hk63 hP hD hS => ?_)
          obtain ⟨u_62, u_63⟩ := u_
          have hP : va_P D vwCl [(o, .inr (7, [.ref q1, .ref q2, .ref q3, .int st, .ref q4, .int ln, .int u_62, .int (bi u_63), .int rs, .ref q5])), (q1, .inl (cI, 314, .inl S)), (q2, .inl (cI, 314, .inl Bg)), (q3, .inl (cI, 1256, .inl Pa)), (q4, .inl (cI, 80, .inl Tx)), (q5, .inl (cI, 5, .inl Q))] H := hP
          have hD : va_D Fr [(o, .inr (7, [.ref q1, .ref q2, .ref q3, .int st, .ref q4, .int ln, .int u_62, .int (bi u_63), .int rs, .ref q5])), (q1, .inl (cI, 314, .inl S)), (q2, .inl (cI, 314, .inl Bg)), (q3, .inl (cI, 1256, .inl Pa)), (q4, .inl (cI, 80, .inl Tx)), (q5, .inl (cI, 5, .inl Q))] := hD
          refine W.eq (g2 := F0 m 57 ls []) rfl ?_
          refine lv_aload_n hx hb dX9_command_57 rfl (lv_at hl 0 rfl) ?_
          refine va_get (D := D) (ci := 7) (C := RX9) (T := TX9) (N := 10) hx hb hts w_2 hown hK hP 0 rfl rfl 7 (by decide) w_1 (fun _ h9 => h9) rfl dX9_command_58 ?_
          refine lv_if_ne (tgt := 66) hx hb dX9_command_61 (by decide) (fun c61 => ?_) (fun c61 => ?_)
          · refine lv_iload_n hx hb dX9_command_66 rfl (lv_at hl 1 rfl) ?_
            by_cases c67_0 : w = 0
            · refine lv_tableIn (tgt := 104) hx hb dX9_command_67 (by rw [c67_0]; decide) (by rw [c67_0]; decide) (by rw [c67_0]; rfl) (by decide) ?_
              refine lv_aload_n hx hb dX9_command_104 rfl (lv_at hl 0 rfl) ?_
              refine lv_aload_n hx hb dX9_command_105 rfl (lv_at hl 0 rfl) ?_
              refine va_get (D := D) (ci := 7) (C := RX9) (T := TX9) (N := 10) hx hb hts w_2 hown hK hP 0 rfl rfl 9 (by decide) w_3 (fun _ h9 => h9) rfl dX9_command_106 ?_
              refine lv_iconst (v := 0) hx hb dX9_command_109 (by decide) ?_
              refine va_iald hx hb hK hP 5 0 rfl rfl (vp_d rfl) dX9_command_110 ?_
              refine W.eq (g2 := F0 m 111 ls [.int (Q 0), .ref o]) rfl ?_
              refine callVi (As := [.int (Q 0)]) (rest := []) (mX9_adds l D cI cC cS _ o q1 q2 q3 q4 q5 S Bg Pa Tx Q st ln u_62 u_63 rs (Q 0) ho.1) ⟨hx, hb, hml, hown, hts⟩ (cwV 1 hts gX9_command_X9_adds rfl rfl rfl (by decide +kernel) ⟨Nat.le_of_ble_eq_true rfl, Nat.le_of_ble_eq_true rfl⟩) X0_blind (fun _ _ _ => trivial) hP hK hD hS hA hl [0, 1, 2, 3, 4, 5] rfl rfl 0 7 rfl rfl rfl rfl rfl (Nat.le_of_ble_eq_true rfl) dX9_command_111 ⟨Nat.zero_le _, Nat.zero_le _⟩ (fun _ => rfl) (fun u_ H locs hk66 hP hD hS => ?_)
              obtain ⟨r_65, u_66⟩ := u_
              have hP : va_P D vwCl [(o, .inr (7, [.ref q1, .ref q2, .ref q3, .int st, .ref q4, .int ln, .int u_62, .int (bi u_63), .int rs, .ref q5])), (q1, .inl (cI, 314, .inl u_66)), (q2, .inl (cI, 314, .inl Bg)), (q3, .inl (cI, 1256, .inl Pa)), (q4, .inl (cI, 80, .inl Tx)), (q5, .inl (cI, 5, .inl Q))] H := hP
              have hD : va_D Fr [(o, .inr (7, [.ref q1, .ref q2, .ref q3, .int st, .ref q4, .int ln, .int u_62, .int (bi u_63), .int rs, .ref q5])), (q1, .inl (cI, 314, .inl u_66)), (q2, .inl (cI, 314, .inl Bg)), (q3, .inl (cI, 1256, .inl Pa)), (q4, .inl (cI, 80, .inl Tx)), (q5, .inl (cI, 5, .inl Q))] := hD
              refine W.eq (g2 := F0 m 114 ls [.int r_65]) rfl ?_
              exact endI hx hb hr hlk hP hK hD hS dX9_command_114 (r_65, u_66, Q, u_62, u_63) rfl ⟨(E_20).trans ((fX9_command_20_s S Tx Nu ln ps fu w x2 Q pp f).trans ((if_neg (bi_z c24)).trans ((bd2_e hk63).trans ((if_pos (bi_o c61)).trans ((if_pos c67_0).trans ((bd2_e hk66).trans rfl)))))), rfl⟩
            by_cases c67_1 : w = 1
            · refine lv_tableIn (tgt := 115) hx hb dX9_command_67 (by rw [c67_1]; decide) (by rw [c67_1]; decide) (by rw [c67_1]; rfl) (by decide) ?_
              refine lv_aload_n hx hb dX9_command_115 rfl (lv_at hl 0 rfl) ?_
              refine lv_aload_n hx hb dX9_command_116 rfl (lv_at hl 0 rfl) ?_
              refine va_get (D := D) (ci := 7) (C := RX9) (T := TX9) (N := 10) hx hb hts w_2 hown hK hP 0 rfl rfl 9 (by decide) w_3 (fun _ h9 => h9) rfl dX9_command_117 ?_
              refine lv_iconst (v := 0) hx hb dX9_command_120 (by decide) ?_
              refine va_iald hx hb hK hP 5 0 rfl rfl (vp_d rfl) dX9_command_121 ?_
              refine W.eq (g2 := F0 m 122 ls [.int (Q 0), .ref o]) rfl ?_
              refine lv_aload_n hx hb dX9_command_122 rfl (lv_at hl 0 rfl) ?_
              refine va_get (D := D) (ci := 7) (C := RX9) (T := TX9) (N := 10) hx hb hts w_2 hown hK hP 0 rfl rfl 9 (by decide) w_3 (fun _ h9 => h9) rfl dX9_command_123 ?_
              refine lv_iconst (v := 1) hx hb dX9_command_126 (by decide) ?_
              refine va_iald hx hb hK hP 5 0 rfl rfl (vp_d rfl) dX9_command_127 ?_
              refine W.eq (g2 := F0 m 128 ls [.int (Q 1), .int (Q 0), .ref o]) rfl ?_
              refine lv_aload_n hx hb dX9_command_128 rfl (lv_at hl 0 rfl) ?_
              refine va_get (D := D) (ci := 7) (C := RX9) (T := TX9) (N := 10) hx hb hts w_2 hown hK hP 0 rfl rfl 9 (by decide) w_3 (fun _ h9 => h9) rfl dX9_command_129 ?_
              refine lv_iconst (v := 2) hx hb dX9_command_132 (by decide) ?_
              refine va_iald hx hb hK hP 5 0 rfl rfl (vp_d rfl) dX9_command_133 ?_
              refine W.eq (g2 := F0 m 134 ls [.int (Q 2), .int (Q 1), .int (Q 0), .ref o]) rfl ?_
              refine callVi (As := [.int (Q 0), .int (Q 1), .int (Q 2)]) (rest := []) (mX9_limits l D cI cC cS _ o q1 q2 q3 q4 q5 S Bg Pa Tx Q st ln u_62 u_63 rs (Q 0) (Q 1) (Q 2)) ⟨hx, hb, hml, hown, hts⟩ (cwV 3 hts gX9_command_X9_limits rfl rfl rfl (by decide +kernel) ⟨Nat.le_of_ble_eq_true rfl, Nat.le_of_ble_eq_true rfl⟩) X0_blind (fun _ _ _ => trivial) hP hK hD hS hA hl [0, 1, 2, 3, 4, 5] rfl rfl 0 7 rfl rfl rfl rfl rfl (Nat.le_of_ble_eq_true rfl) dX9_command_134 ⟨Nat.zero_le _, Nat.zero_le _⟩ (fun _ => rfl) (fun u_ H locs hk69 hP hD hS => ?_)
              obtain ⟨r_68, u_69⟩ := u_
              have hP : va_P D vwCl [(o, .inr (7, [.ref q1, .ref q2, .ref q3, .int st, .ref q4, .int ln, .int u_62, .int (bi u_63), .int rs, .ref q5])), (q1, .inl (cI, 314, .inl u_69)), (q2, .inl (cI, 314, .inl Bg)), (q3, .inl (cI, 1256, .inl Pa)), (q4, .inl (cI, 80, .inl Tx)), (q5, .inl (cI, 5, .inl Q))] H := hP
              have hD : va_D Fr [(o, .inr (7, [.ref q1, .ref q2, .ref q3, .int st, .ref q4, .int ln, .int u_62, .int (bi u_63), .int rs, .ref q5])), (q1, .inl (cI, 314, .inl u_69)), (q2, .inl (cI, 314, .inl Bg)), (q3, .inl (cI, 1256, .inl Pa)), (q4, .inl (cI, 80, .inl Tx)), (q5, .inl (cI, 5, .inl Q))] := hD
              refine W.eq (g2 := F0 m 137 ls [.int r_68]) rfl ?_
              exact endI hx hb hr hlk hP hK hD hS dX9_command_137 (r_68, u_69, Q, u_62, u_63) rfl ⟨(E_20).trans ((fX9_command_20_s S Tx Nu ln ps fu w x2 Q pp f).trans ((if_neg (bi_z c24)).trans ((bd2_e hk63).trans ((if_pos (bi_o c61)).trans ((if_neg c67_0).trans ((if_pos c67_1).trans ((bd2_e hk69).trans rfl))))))), rfl⟩
            by_cases c67_2 : w = 2
            · refine lv_tableIn (tgt := 138) hx hb dX9_command_67 (by rw [c67_2]; decide) (by rw [c67_2]; decide) (by rw [c67_2]; rfl) (by decide) ?_
              refine lv_aload_n hx hb dX9_command_138 rfl (lv_at hl 0 rfl) ?_
              refine lv_aload_n hx hb dX9_command_139 rfl (lv_at hl 0 rfl) ?_
              refine va_get (D := D) (ci := 7) (C := RX9) (T := TX9) (N := 10) hx hb hts w_2 hown hK hP 0 rfl rfl 9 (by decide) w_3 (fun _ h9 => h9) rfl dX9_command_140 ?_
              refine lv_iconst (v := 0) hx hb dX9_command_143 (by decide) ?_
              refine va_iald hx hb hK hP 5 0 rfl rfl (vp_d rfl) dX9_command_144 ?_
              refine W.eq (g2 := F0 m 145 ls [.int (Q 0), .ref o]) rfl ?_
              refine lv_aload_n hx hb dX9_command_145 rfl (lv_at hl 0 rfl) ?_
              refine va_get (D := D) (ci := 7) (C := RX9) (T := TX9) (N := 10) hx hb hts w_2 hown hK hP 0 rfl rfl 9 (by decide) w_3 (fun _ h9 => h9) rfl dX9_command_146 ?_
              refine lv_iconst (v := 1) hx hb dX9_command_149 (by decide) ?_
              refine va_iald hx hb hK hP 5 0 rfl rfl (vp_d rfl) dX9_command_150 ?_
              refine W.eq (g2 := F0 m 151 ls [.int (Q 1), .int (Q 0), .ref o]) rfl ?_
              refine lv_aload_n hx hb dX9_command_151 rfl (lv_at hl 0 rfl) ?_
              refine va_get (D := D) (ci := 7) (C := RX9) (T := TX9) (N := 10) hx hb hts w_2 hown hK hP 0 rfl rfl 9 (by decide) w_3 (fun _ h9 => h9) rfl dX9_command_152 ?_
              refine lv_iconst (v := 2) hx hb dX9_command_155 (by decide) ?_
              refine va_iald hx hb hK hP 5 0 rfl rfl (vp_d rfl) dX9_command_156 ?_
              refine W.eq (g2 := F0 m 157 ls [.int (Q 2), .int (Q 1), .int (Q 0), .ref o]) rfl ?_
              refine lv_iload_n hx hb dX9_command_157 rfl (lv_at hl 1 rfl) ?_
              refine lv_iconst (v := 2) hx hb dX9_command_158 (by decide) ?_
              refine lv_isub hx hb dX9_command_159 ?_
              refine callVi (As := [.int (Q 0), .int (Q 1), .int (Q 2), .int (w - 2)]) (rest := []) (mX9_calls l D cI cC cS _ o q1 q2 q3 q4 q5 S Bg Pa Tx Q st ln u_62 u_63 rs (Q 0) (Q 1) (Q 2) (w - 2) ho) ⟨hx, hb, hml, hown, hts⟩ (cwV 4 hts gX9_command_X9_calls rfl rfl rfl (by decide +kernel) ⟨Nat.le_of_ble_eq_true rfl, Nat.le_of_ble_eq_true rfl⟩) X0_blind (fun _ _ _ => trivial) hP hK hD hS hA hl [0, 1, 2, 3, 4, 5] rfl rfl 0 7 rfl rfl rfl rfl rfl (Nat.le_of_ble_eq_true rfl) dX9_command_160 ⟨Nat.zero_le _, Nat.zero_le _⟩ (fun _ => rfl) (fun u_ H locs hk72 hP hD hS => ?_)
              obtain ⟨r_71, u_72⟩ := u_
              have hP : va_P D vwCl [(o, .inr (7, [.ref q1, .ref q2, .ref q3, .int st, .ref q4, .int ln, .int u_62, .int (bi u_63), .int rs, .ref q5])), (q1, .inl (cI, 314, .inl u_72)), (q2, .inl (cI, 314, .inl Bg)), (q3, .inl (cI, 1256, .inl Pa)), (q4, .inl (cI, 80, .inl Tx)), (q5, .inl (cI, 5, .inl Q))] H := hP
              have hD : va_D Fr [(o, .inr (7, [.ref q1, .ref q2, .ref q3, .int st, .ref q4, .int ln, .int u_62, .int (bi u_63), .int rs, .ref q5])), (q1, .inl (cI, 314, .inl u_72)), (q2, .inl (cI, 314, .inl Bg)), (q3, .inl (cI, 1256, .inl Pa)), (q4, .inl (cI, 80, .inl Tx)), (q5, .inl (cI, 5, .inl Q))] := hD
              refine W.eq (g2 := F0 m 163 ls [.int r_71]) rfl ?_
              exact endI hx hb hr hlk hP hK hD hS dX9_command_163 (r_71, u_72, Q, u_62, u_63) rfl ⟨(E_20).trans ((fX9_command_20_s S Tx Nu ln ps fu w x2 Q pp f).trans ((if_neg (bi_z c24)).trans ((bd2_e hk63).trans ((if_pos (bi_o c61)).trans ((if_neg c67_0).trans ((if_neg c67_1).trans ((if_pos c67_2).trans ((bd2_e hk72).trans rfl)))))))), rfl⟩
            by_cases c67_3 : w = 3
            · refine lv_tableIn (tgt := 138) hx hb dX9_command_67 (by rw [c67_3]; decide) (by rw [c67_3]; decide) (by rw [c67_3]; rfl) (by decide) ?_
              refine lv_aload_n hx hb dX9_command_138 rfl (lv_at hl 0 rfl) ?_
              refine lv_aload_n hx hb dX9_command_139 rfl (lv_at hl 0 rfl) ?_
              refine va_get (D := D) (ci := 7) (C := RX9) (T := TX9) (N := 10) hx hb hts w_2 hown hK hP 0 rfl rfl 9 (by decide) w_3 (fun _ h9 => h9) rfl dX9_command_140 ?_
              refine lv_iconst (v := 0) hx hb dX9_command_143 (by decide) ?_
              refine va_iald hx hb hK hP 5 0 rfl rfl (vp_d rfl) dX9_command_144 ?_
              refine W.eq (g2 := F0 m 145 ls [.int (Q 0), .ref o]) rfl ?_
              refine lv_aload_n hx hb dX9_command_145 rfl (lv_at hl 0 rfl) ?_
              refine va_get (D := D) (ci := 7) (C := RX9) (T := TX9) (N := 10) hx hb hts w_2 hown hK hP 0 rfl rfl 9 (by decide) w_3 (fun _ h9 => h9) rfl dX9_command_146 ?_
              refine lv_iconst (v := 1) hx hb dX9_command_149 (by decide) ?_
              refine va_iald hx hb hK hP 5 0 rfl rfl (vp_d rfl) dX9_command_150 ?_
              refine W.eq (g2 := F0 m 151 ls [.int (Q 1), .int (Q 0), .ref o]) rfl ?_
              refine lv_aload_n hx hb dX9_command_151 rfl (lv_at hl 0 rfl) ?_
              refine va_get (D := D) (ci := 7) (C := RX9) (T := TX9) (N := 10) hx hb hts w_2 hown hK hP 0 rfl rfl 9 (by decide) w_3 (fun _ h9 => h9) rfl dX9_command_152 ?_
              refine lv_iconst (v := 2) hx hb dX9_command_155 (by decide) ?_
              refine va_iald hx hb hK hP 5 0 rfl rfl (vp_d rfl) dX9_command_156 ?_
              refine W.eq (g2 := F0 m 157 ls [.int (Q 2), .int (Q 1), .int (Q 0), .ref o]) rfl ?_
              refine lv_iload_n hx hb dX9_command_157 rfl (lv_at hl 1 rfl) ?_
              refine lv_iconst (v := 2) hx hb dX9_command_158 (by decide) ?_
              refine lv_isub hx hb dX9_command_159 ?_
              refine callVi (As := [.int (Q 0), .int (Q 1), .int (Q 2), .int (w - 2)]) (rest := []) (mX9_calls l D cI cC cS _ o q1 q2 q3 q4 q5 S Bg Pa Tx Q st ln u_62 u_63 rs (Q 0) (Q 1) (Q 2) (w - 2) ho) ⟨hx, hb, hml, hown, hts⟩ (cwV 4 hts gX9_command_X9_calls rfl rfl rfl (by decide +kernel) ⟨Nat.le_of_ble_eq_true rfl, Nat.le_of_ble_eq_true rfl⟩) X0_blind (fun _ _ _ => trivial) hP hK hD hS hA hl [0, 1, 2, 3, 4, 5] rfl rfl 0 7 rfl rfl rfl rfl rfl (Nat.le_of_ble_eq_true rfl) dX9_command_160 ⟨Nat.zero_le _, Nat.zero_le _⟩ (fun _ => rfl) (fun u_ H locs hk75 hP hD hS => ?_)
              obtain ⟨r_74, u_75⟩ := u_
              have hP : va_P D vwCl [(o, .inr (7, [.ref q1, .ref q2, .ref q3, .int st, .ref q4, .int ln, .int u_62, .int (bi u_63), .int rs, .ref q5])), (q1, .inl (cI, 314, .inl u_75)), (q2, .inl (cI, 314, .inl Bg)), (q3, .inl (cI, 1256, .inl Pa)), (q4, .inl (cI, 80, .inl Tx)), (q5, .inl (cI, 5, .inl Q))] H := hP
              have hD : va_D Fr [(o, .inr (7, [.ref q1, .ref q2, .ref q3, .int st, .ref q4, .int ln, .int u_62, .int (bi u_63), .int rs, .ref q5])), (q1, .inl (cI, 314, .inl u_75)), (q2, .inl (cI, 314, .inl Bg)), (q3, .inl (cI, 1256, .inl Pa)), (q4, .inl (cI, 80, .inl Tx)), (q5, .inl (cI, 5, .inl Q))] := hD
              refine W.eq (g2 := F0 m 163 ls [.int r_74]) rfl ?_
              exact endI hx hb hr hlk hP hK hD hS dX9_command_163 (r_74, u_75, Q, u_62, u_63) rfl ⟨(E_20).trans ((fX9_command_20_s S Tx Nu ln ps fu w x2 Q pp f).trans ((if_neg (bi_z c24)).trans ((bd2_e hk63).trans ((if_pos (bi_o c61)).trans ((if_neg c67_0).trans ((if_neg c67_1).trans ((if_neg c67_2).trans ((if_pos c67_3).trans ((bd2_e hk75).trans rfl))))))))), rfl⟩
            by_cases c67_4 : w = 4
            · refine lv_tableIn (tgt := 164) hx hb dX9_command_67 (by rw [c67_4]; decide) (by rw [c67_4]; decide) (by rw [c67_4]; rfl) (by decide) ?_
              refine lv_aload_n hx hb dX9_command_164 rfl (lv_at hl 0 rfl) ?_
              refine lv_aload_n hx hb dX9_command_165 rfl (lv_at hl 0 rfl) ?_
              refine va_get (D := D) (ci := 7) (C := RX9) (T := TX9) (N := 10) hx hb hts w_2 hown hK hP 0 rfl rfl 9 (by decide) w_3 (fun _ h9 => h9) rfl dX9_command_166 ?_
              refine lv_iconst (v := 0) hx hb dX9_command_169 (by decide) ?_
              refine va_iald hx hb hK hP 5 0 rfl rfl (vp_d rfl) dX9_command_170 ?_
              refine W.eq (g2 := F0 m 171 ls [.int (Q 0), .ref o]) rfl ?_
              refine lv_aload_n hx hb dX9_command_171 rfl (lv_at hl 0 rfl) ?_
              refine va_get (D := D) (ci := 7) (C := RX9) (T := TX9) (N := 10) hx hb hts w_2 hown hK hP 0 rfl rfl 9 (by decide) w_3 (fun _ h9 => h9) rfl dX9_command_172 ?_
              refine lv_iconst (v := 1) hx hb dX9_command_175 (by decide) ?_
              refine va_iald hx hb hK hP 5 0 rfl rfl (vp_d rfl) dX9_command_176 ?_
              refine W.eq (g2 := F0 m 177 ls [.int (Q 1), .int (Q 0), .ref o]) rfl ?_
              refine lv_aload_n hx hb dX9_command_177 rfl (lv_at hl 0 rfl) ?_
              refine va_get (D := D) (ci := 7) (C := RX9) (T := TX9) (N := 10) hx hb hts w_2 hown hK hP 0 rfl rfl 9 (by decide) w_3 (fun _ h9 => h9) rfl dX9_command_178 ?_
              refine lv_iconst (v := 2) hx hb dX9_command_181 (by decide) ?_
              refine va_iald hx hb hK hP 5 0 rfl rfl (vp_d rfl) dX9_command_182 ?_
              refine W.eq (g2 := F0 m 183 ls [.int (Q 2), .int (Q 1), .int (Q 0), .ref o]) rfl ?_
              refine lv_aload_n hx hb dX9_command_183 rfl (lv_at hl 0 rfl) ?_
              refine va_get (D := D) (ci := 7) (C := RX9) (T := TX9) (N := 10) hx hb hts w_2 hown hK hP 0 rfl rfl 9 (by decide) w_3 (fun _ h9 => h9) rfl dX9_command_184 ?_
              refine lv_iconst (v := 3) hx hb dX9_command_187 (by decide) ?_
              refine va_iald hx hb hK hP 5 0 rfl rfl (vp_d rfl) dX9_command_188 ?_
              refine W.eq (g2 := F0 m 189 ls [.int (Q 3), .int (Q 2), .int (Q 1), .int (Q 0), .ref o]) rfl ?_
              refine lv_iconst (v := 2) hx hb dX9_command_189 (by decide) ?_
              refine lv_iadd hx hb dX9_command_190 ?_
              refine callVi (As := [.int (Q 0), .int (Q 1), .int (Q 2), .int ((Q 3) + 2)]) (rest := []) (mX9_calls l D cI cC cS _ o q1 q2 q3 q4 q5 S Bg Pa Tx Q st ln u_62 u_63 rs (Q 0) (Q 1) (Q 2) ((Q 3) + 2) ho) ⟨hx, hb, hml, hown, hts⟩ (cwV 4 hts gX9_command_X9_calls rfl rfl rfl (by decide +kernel) ⟨Nat.le_of_ble_eq_true rfl, Nat.le_of_ble_eq_true rfl⟩) X0_blind (fun _ _ _ => trivial) hP hK hD hS hA hl [0, 1, 2, 3, 4, 5] rfl rfl 0 7 rfl rfl rfl rfl rfl (Nat.le_of_ble_eq_true rfl) dX9_command_191 ⟨Nat.zero_le _, Nat.zero_le _⟩ (fun _ => rfl) (fun u_ H locs hk78 hP hD hS => ?_)
              obtain ⟨r_77, u_78⟩ := u_
              have hP : va_P D vwCl [(o, .inr (7, [.ref q1, .ref q2, .ref q3, .int st, .ref q4, .int ln, .int u_62, .int (bi u_63), .int rs, .ref q5])), (q1, .inl (cI, 314, .inl u_78)), (q2, .inl (cI, 314, .inl Bg)), (q3, .inl (cI, 1256, .inl Pa)), (q4, .inl (cI, 80, .inl Tx)), (q5, .inl (cI, 5, .inl Q))] H := hP
              have hD : va_D Fr [(o, .inr (7, [.ref q1, .ref q2, .ref q3, .int st, .ref q4, .int ln, .int u_62, .int (bi u_63), .int rs, .ref q5])), (q1, .inl (cI, 314, .inl u_78)), (q2, .inl (cI, 314, .inl Bg)), (q3, .inl (cI, 1256, .inl Pa)), (q4, .inl (cI, 80, .inl Tx)), (q5, .inl (cI, 5, .inl Q))] := hD
              refine W.eq (g2 := F0 m 194 ls [.int r_77]) rfl ?_
              exact endI hx hb hr hlk hP hK hD hS dX9_command_194 (r_77, u_78, Q, u_62, u_63) rfl ⟨(E_20).trans ((fX9_command_20_s S Tx Nu ln ps fu w x2 Q pp f).trans ((if_neg (bi_z c24)).trans ((bd2_e hk63).trans ((if_pos (bi_o c61)).trans ((if_neg c67_0).trans ((if_neg c67_1).trans ((if_neg c67_2).trans ((if_neg c67_3).trans ((if_pos c67_4).trans ((bd2_e hk78).trans rfl)))))))))), rfl⟩
            by_cases c67_5 : w = 5
            · refine lv_tableIn (tgt := 195) hx hb dX9_command_67 (by rw [c67_5]; decide) (by rw [c67_5]; decide) (by rw [c67_5]; rfl) (by decide) ?_
              refine lv_aload_n hx hb dX9_command_195 rfl (lv_at hl 0 rfl) ?_
              refine lv_aload_n hx hb dX9_command_196 rfl (lv_at hl 0 rfl) ?_
              refine va_get (D := D) (ci := 7) (C := RX9) (T := TX9) (N := 10) hx hb hts w_2 hown hK hP 0 rfl rfl 9 (by decide) w_3 (fun _ h9 => h9) rfl dX9_command_197 ?_
              refine lv_iconst (v := 0) hx hb dX9_command_200 (by decide) ?_
              refine va_iald hx hb hK hP 5 0 rfl rfl (vp_d rfl) dX9_command_201 ?_
              refine W.eq (g2 := F0 m 202 ls [.int (Q 0), .ref o]) rfl ?_
              refine lv_aload_n hx hb dX9_command_202 rfl (lv_at hl 0 rfl) ?_
              refine va_get (D := D) (ci := 7) (C := RX9) (T := TX9) (N := 10) hx hb hts w_2 hown hK hP 0 rfl rfl 9 (by decide) w_3 (fun _ h9 => h9) rfl dX9_command_203 ?_
              refine lv_iconst (v := 1) hx hb dX9_command_206 (by decide) ?_
              refine va_iald hx hb hK hP 5 0 rfl rfl (vp_d rfl) dX9_command_207 ?_
              refine W.eq (g2 := F0 m 208 ls [.int (Q 1), .int (Q 0), .ref o]) rfl ?_
              refine lv_aload_n hx hb dX9_command_208 rfl (lv_at hl 0 rfl) ?_
              refine va_get (D := D) (ci := 7) (C := RX9) (T := TX9) (N := 10) hx hb hts w_2 hown hK hP 0 rfl rfl 9 (by decide) w_3 (fun _ h9 => h9) rfl dX9_command_209 ?_
              refine lv_iconst (v := 2) hx hb dX9_command_212 (by decide) ?_
              refine va_iald hx hb hK hP 5 0 rfl rfl (vp_d rfl) dX9_command_213 ?_
              refine W.eq (g2 := F0 m 214 ls [.int (Q 2), .int (Q 1), .int (Q 0), .ref o]) rfl ?_
              refine lv_aload_n hx hb dX9_command_214 rfl (lv_at hl 0 rfl) ?_
              refine va_get (D := D) (ci := 7) (C := RX9) (T := TX9) (N := 10) hx hb hts w_2 hown hK hP 0 rfl rfl 9 (by decide) w_3 (fun _ h9 => h9) rfl dX9_command_215 ?_
              refine lv_iconst (v := 3) hx hb dX9_command_218 (by decide) ?_
              refine va_iald hx hb hK hP 5 0 rfl rfl (vp_d rfl) dX9_command_219 ?_
              refine W.eq (g2 := F0 m 220 ls [.int (Q 3), .int (Q 2), .int (Q 1), .int (Q 0), .ref o]) rfl ?_
              refine lv_aload_n hx hb dX9_command_220 rfl (lv_at hl 0 rfl) ?_
              refine va_get (D := D) (ci := 7) (C := RX9) (T := TX9) (N := 10) hx hb hts w_2 hown hK hP 0 rfl rfl 9 (by decide) w_3 (fun _ h9 => h9) rfl dX9_command_221 ?_
              refine lv_iconst (v := 4) hx hb dX9_command_224 (by decide) ?_
              refine va_iald hx hb hK hP 5 0 rfl rfl (vp_d rfl) dX9_command_225 ?_
              refine W.eq (g2 := F0 m 226 ls [.int (Q 4), .int (Q 3), .int (Q 2), .int (Q 1), .int (Q 0), .ref o]) rfl ?_
              refine callVi (As := [.int (Q 0), .int (Q 1), .int (Q 2), .int (Q 3), .int (Q 4)]) (rest := []) (mX9_fixes l D cI cC cS _ o q1 q2 q3 q4 q5 S Bg Pa Tx Q st ln u_62 u_63 rs (Q 0) (Q 1) (Q 2) (Q 3) (Q 4) ho) ⟨hx, hb, hml, hown, hts⟩ (cwV 5 hts gX9_command_X9_fixes rfl rfl rfl (by decide +kernel) ⟨Nat.le_of_ble_eq_true rfl, Nat.le_of_ble_eq_true rfl⟩) X0_blind (fun _ _ _ => trivial) hP hK hD hS hA hl [0, 1, 2, 3, 4, 5] rfl rfl 0 7 rfl rfl rfl rfl rfl (Nat.le_of_ble_eq_true rfl) dX9_command_226 ⟨Nat.zero_le _, Nat.zero_le _⟩ (fun _ => rfl) (fun u_ H locs hk81 hP hD hS => ?_)
              obtain ⟨r_80, u_81⟩ := u_
              have hP : va_P D vwCl [(o, .inr (7, [.ref q1, .ref q2, .ref q3, .int st, .ref q4, .int ln, .int u_62, .int (bi u_63), .int rs, .ref q5])), (q1, .inl (cI, 314, .inl u_81)), (q2, .inl (cI, 314, .inl Bg)), (q3, .inl (cI, 1256, .inl Pa)), (q4, .inl (cI, 80, .inl Tx)), (q5, .inl (cI, 5, .inl Q))] H := hP
              have hD : va_D Fr [(o, .inr (7, [.ref q1, .ref q2, .ref q3, .int st, .ref q4, .int ln, .int u_62, .int (bi u_63), .int rs, .ref q5])), (q1, .inl (cI, 314, .inl u_81)), (q2, .inl (cI, 314, .inl Bg)), (q3, .inl (cI, 1256, .inl Pa)), (q4, .inl (cI, 80, .inl Tx)), (q5, .inl (cI, 5, .inl Q))] := hD
              refine W.eq (g2 := F0 m 229 ls [.int r_80]) rfl ?_
              exact endI hx hb hr hlk hP hK hD hS dX9_command_229 (r_80, u_81, Q, u_62, u_63) rfl ⟨(E_20).trans ((fX9_command_20_s S Tx Nu ln ps fu w x2 Q pp f).trans ((if_neg (bi_z c24)).trans ((bd2_e hk63).trans ((if_pos (bi_o c61)).trans ((if_neg c67_0).trans ((if_neg c67_1).trans ((if_neg c67_2).trans ((if_neg c67_3).trans ((if_neg c67_4).trans ((if_pos c67_5).trans ((bd2_e hk81).trans rfl))))))))))), rfl⟩
            refine lv_tableOut (tgt := 230) hx hb dX9_command_67 (tab_out (lo := 0) (hi := 5) (by decide) (fun k kk1 kk2 => ?_)) (by decide) ?_
            · rcases (show k = 0 ∨ k = 1 ∨ k = 2 ∨ k = 3 ∨ k = 4 ∨ k = 5 by omega) with rfl | rfl | rfl | rfl | rfl | rfl
              · exact ne_ti c67_0 (by decide)
              · exact ne_ti c67_1 (by decide)
              · exact ne_ti c67_2 (by decide)
              · exact ne_ti c67_3 (by decide)
              · exact ne_ti c67_4 (by decide)
              · exact ne_ti c67_5 (by decide)
            refine lv_aload_n hx hb dX9_command_230 rfl (lv_at hl 0 rfl) ?_
            refine lv_aload_n hx hb dX9_command_231 rfl (lv_at hl 0 rfl) ?_
            refine va_get (D := D) (ci := 7) (C := RX9) (T := TX9) (N := 10) hx hb hts w_2 hown hK hP 0 rfl rfl 9 (by decide) w_3 (fun _ h9 => h9) rfl dX9_command_232 ?_
            refine lv_iconst (v := 0) hx hb dX9_command_235 (by decide) ?_
            refine va_iald hx hb hK hP 5 0 rfl rfl (vp_d rfl) dX9_command_236 ?_
            refine W.eq (g2 := F0 m 237 ls [.int (Q 0), .ref o]) rfl ?_
            refine callVi (As := [.int (Q 0)]) (rest := []) (mX9_passes l D cI cC cS _ o q1 q2 q3 q4 q5 S Bg Pa Tx Q st ln u_62 u_63 rs (Q 0) ho.2.1) ⟨hx, hb, hml, hown, hts⟩ (cwV 1 hts gX9_command_X9_passes rfl rfl rfl (by decide +kernel) ⟨Nat.le_of_ble_eq_true rfl, Nat.le_of_ble_eq_true rfl⟩) X0_blind (fun _ _ _ => trivial) hP hK hD hS hA hl [0, 1, 2, 3, 4, 5] rfl rfl 0 7 rfl rfl rfl rfl rfl (Nat.le_of_ble_eq_true rfl) dX9_command_237 ⟨Nat.zero_le _, Nat.zero_le _⟩ (fun _ => rfl) (fun u_ H locs hk84 hP hD hS => ?_)
            obtain ⟨r_83, u_84⟩ := u_
            have hP : va_P D vwCl [(o, .inr (7, [.ref q1, .ref q2, .ref q3, .int st, .ref q4, .int ln, .int u_62, .int (bi u_63), .int rs, .ref q5])), (q1, .inl (cI, 314, .inl u_84)), (q2, .inl (cI, 314, .inl Bg)), (q3, .inl (cI, 1256, .inl Pa)), (q4, .inl (cI, 80, .inl Tx)), (q5, .inl (cI, 5, .inl Q))] H := hP
            have hD : va_D Fr [(o, .inr (7, [.ref q1, .ref q2, .ref q3, .int st, .ref q4, .int ln, .int u_62, .int (bi u_63), .int rs, .ref q5])), (q1, .inl (cI, 314, .inl u_84)), (q2, .inl (cI, 314, .inl Bg)), (q3, .inl (cI, 1256, .inl Pa)), (q4, .inl (cI, 80, .inl Tx)), (q5, .inl (cI, 5, .inl Q))] := hD
            refine W.eq (g2 := F0 m 240 ls [.int r_83]) rfl ?_
            exact endI hx hb hr hlk hP hK hD hS dX9_command_240 (r_83, u_84, Q, u_62, u_63) rfl ⟨(E_20).trans ((fX9_command_20_s S Tx Nu ln ps fu w x2 Q pp f).trans ((if_neg (bi_z c24)).trans ((bd2_e hk63).trans ((if_pos (bi_o c61)).trans ((if_neg c67_0).trans ((if_neg c67_1).trans ((if_neg c67_2).trans ((if_neg c67_3).trans ((if_neg c67_4).trans ((if_neg c67_5).trans ((bd2_e hk84).trans rfl))))))))))), rfl⟩
          · refine lv_iconst (v := 0) hx hb dX9_command_64 (by decide) ?_
            exact endI hx hb hr hlk hP hK hD hS dX9_command_65 (0, S, Q, u_62, u_63) rfl ⟨(E_20).trans ((fX9_command_20_s S Tx Nu ln ps fu w x2 Q pp f).trans ((if_neg (bi_z c24)).trans ((bd2_e hk63).trans ((if_neg (bi_z c61)).trans rfl)))), rfl⟩
        · refine lv_iload_n hx hb dX9_command_27 rfl (lv_at hl 2 rfl) ?_
          refine lv_iload_n hx hb dX9_command_28 rfl (lv_at hl 1 rfl) ?_
          refine callSi (As := [.int w]) (rest := [.int x2]) (mX9_manyOf l D cI cC cS _ w) ⟨hx, hb, hml, hown, hts⟩ (va_cwS 1 hts gX9_command_X9_manyOf rfl rfl rfl (by decide +kernel) ⟨Nat.le_of_ble_eq_true rfl, Nat.le_of_ble_eq_true rfl⟩) hP hK hD hS hA hl rfl rfl (Nat.le_of_ble_eq_true rfl) dX9_command_29 ⟨Nat.zero_le _, Nat.zero_le _⟩ (fun u_ H locs hk86 hP hS => ?_)
          obtain ⟨r_86, e_r_86⟩ : ∃ z, z = u_ := ⟨_, rfl⟩
          subst e_r_86
          refine W.eq (g2 := F0 m 32 ls [.int r_86, .int x2]) rfl ?_
          refine lv_icmp_ge (tgt := 51) hx hb dX9_command_32 (by decide) (fun c32 => ?_) (fun c32 => ?_)
          · refine lv_aload_n hx hb dX9_command_51 rfl (lv_at hl 0 rfl) ?_
            refine lv_bipush (v := 59) hx hb dX9_command_52 (by decide) ?_
            refine callVv (As := [.int 59]) (rest := []) (mX9_must l D cI cC cS _ o q1 q2 q3 q4 q5 S Bg Pa Tx Q st ln pp f rs 59 hL (cm_nn hi)) ⟨hx, hb, hml, hown, hts⟩ (cwV 1 hts gX9_command_X9_must rfl rfl rfl (by decide +kernel) ⟨Nat.le_of_ble_eq_true rfl, Nat.le_of_ble_eq_true rfl⟩) X0_blind (fun _ _ _ => trivial) hP hK hD hS hA hl [0, 1, 2, 3, 4, 5] rfl rfl 0 7 rfl rfl rfl rfl rfl (Nat.le_of_ble_eq_true rfl) dX9_command_54 ⟨Nat.zero_le _, Nat.zero_le _⟩ (fun _ => rfl) (fun u_ H locs hk90 hP hD hS => ?_)
            obtain ⟨u_89, u_90⟩ := u_
            have hP : va_P D vwCl [(o, .inr (7, [.ref q1, .ref q2, .ref q3, .int st, .ref q4, .int ln, .int u_89, .int (bi u_90), .int rs, .ref q5])), (q1, .inl (cI, 314, .inl S)), (q2, .inl (cI, 314, .inl Bg)), (q3, .inl (cI, 1256, .inl Pa)), (q4, .inl (cI, 80, .inl Tx)), (q5, .inl (cI, 5, .inl Q))] H := hP
            have hD : va_D Fr [(o, .inr (7, [.ref q1, .ref q2, .ref q3, .int st, .ref q4, .int ln, .int u_89, .int (bi u_90), .int rs, .ref q5])), (q1, .inl (cI, 314, .inl S)), (q2, .inl (cI, 314, .inl Bg)), (q3, .inl (cI, 1256, .inl Pa)), (q4, .inl (cI, 80, .inl Tx)), (q5, .inl (cI, 5, .inl Q))] := hD
            refine W.eq (g2 := F0 m 57 ls []) rfl ?_
            refine lv_aload_n hx hb dX9_command_57 rfl (lv_at hl 0 rfl) ?_
            refine va_get (D := D) (ci := 7) (C := RX9) (T := TX9) (N := 10) hx hb hts w_2 hown hK hP 0 rfl rfl 7 (by decide) w_1 (fun _ h9 => h9) rfl dX9_command_58 ?_
            refine lv_if_ne (tgt := 66) hx hb dX9_command_61 (by decide) (fun c61 => ?_) (fun c61 => ?_)
            · refine lv_iload_n hx hb dX9_command_66 rfl (lv_at hl 1 rfl) ?_
              by_cases c67_0 : w = 0
              · refine lv_tableIn (tgt := 104) hx hb dX9_command_67 (by rw [c67_0]; decide) (by rw [c67_0]; decide) (by rw [c67_0]; rfl) (by decide) ?_
                refine lv_aload_n hx hb dX9_command_104 rfl (lv_at hl 0 rfl) ?_
                refine lv_aload_n hx hb dX9_command_105 rfl (lv_at hl 0 rfl) ?_
                refine va_get (D := D) (ci := 7) (C := RX9) (T := TX9) (N := 10) hx hb hts w_2 hown hK hP 0 rfl rfl 9 (by decide) w_3 (fun _ h9 => h9) rfl dX9_command_106 ?_
                refine lv_iconst (v := 0) hx hb dX9_command_109 (by decide) ?_
                refine va_iald hx hb hK hP 5 0 rfl rfl (vp_d rfl) dX9_command_110 ?_
                refine W.eq (g2 := F0 m 111 ls [.int (Q 0), .ref o]) rfl ?_
                refine callVi (As := [.int (Q 0)]) (rest := []) (mX9_adds l D cI cC cS _ o q1 q2 q3 q4 q5 S Bg Pa Tx Q st ln u_89 u_90 rs (Q 0) ho.1) ⟨hx, hb, hml, hown, hts⟩ (cwV 1 hts gX9_command_X9_adds rfl rfl rfl (by decide +kernel) ⟨Nat.le_of_ble_eq_true rfl, Nat.le_of_ble_eq_true rfl⟩) X0_blind (fun _ _ _ => trivial) hP hK hD hS hA hl [0, 1, 2, 3, 4, 5] rfl rfl 0 7 rfl rfl rfl rfl rfl (Nat.le_of_ble_eq_true rfl) dX9_command_111 ⟨Nat.zero_le _, Nat.zero_le _⟩ (fun _ => rfl) (fun u_ H locs hk93 hP hD hS => ?_)
                obtain ⟨r_92, u_93⟩ := u_
                have hP : va_P D vwCl [(o, .inr (7, [.ref q1, .ref q2, .ref q3, .int st, .ref q4, .int ln, .int u_89, .int (bi u_90), .int rs, .ref q5])), (q1, .inl (cI, 314, .inl u_93)), (q2, .inl (cI, 314, .inl Bg)), (q3, .inl (cI, 1256, .inl Pa)), (q4, .inl (cI, 80, .inl Tx)), (q5, .inl (cI, 5, .inl Q))] H := hP
                have hD : va_D Fr [(o, .inr (7, [.ref q1, .ref q2, .ref q3, .int st, .ref q4, .int ln, .int u_89, .int (bi u_90), .int rs, .ref q5])), (q1, .inl (cI, 314, .inl u_93)), (q2, .inl (cI, 314, .inl Bg)), (q3, .inl (cI, 1256, .inl Pa)), (q4, .inl (cI, 80, .inl Tx)), (q5, .inl (cI, 5, .inl Q))] := hD
                refine W.eq (g2 := F0 m 114 ls [.int r_92]) rfl ?_
                exact endI hx hb hr hlk hP hK hD hS dX9_command_114 (r_92, u_93, Q, u_89, u_90) rfl ⟨(E_20).trans ((fX9_command_20_s S Tx Nu ln ps fu w x2 Q pp f).trans ((if_pos (bi_o c24)).trans ((bd1_e hk86).trans ((if_pos c32).trans ((bd2_e hk90).trans ((if_pos (bi_o c61)).trans ((if_pos c67_0).trans ((bd2_e hk93).trans rfl)))))))), rfl⟩
              by_cases c67_1 : w = 1
              · refine lv_tableIn (tgt := 115) hx hb dX9_command_67 (by rw [c67_1]; decide) (by rw [c67_1]; decide) (by rw [c67_1]; rfl) (by decide) ?_
                refine lv_aload_n hx hb dX9_command_115 rfl (lv_at hl 0 rfl) ?_
                refine lv_aload_n hx hb dX9_command_116 rfl (lv_at hl 0 rfl) ?_
                refine va_get (D := D) (ci := 7) (C := RX9) (T := TX9) (N := 10) hx hb hts w_2 hown hK hP 0 rfl rfl 9 (by decide) w_3 (fun _ h9 => h9) rfl dX9_command_117 ?_
                refine lv_iconst (v := 0) hx hb dX9_command_120 (by decide) ?_
                refine va_iald hx hb hK hP 5 0 rfl rfl (vp_d rfl) dX9_command_121 ?_
                refine W.eq (g2 := F0 m 122 ls [.int (Q 0), .ref o]) rfl ?_
                refine lv_aload_n hx hb dX9_command_122 rfl (lv_at hl 0 rfl) ?_
                refine va_get (D := D) (ci := 7) (C := RX9) (T := TX9) (N := 10) hx hb hts w_2 hown hK hP 0 rfl rfl 9 (by decide) w_3 (fun _ h9 => h9) rfl dX9_command_123 ?_
                refine lv_iconst (v := 1) hx hb dX9_command_126 (by decide) ?_
                refine va_iald hx hb hK hP 5 0 rfl rfl (vp_d rfl) dX9_command_127 ?_
                refine W.eq (g2 := F0 m 128 ls [.int (Q 1), .int (Q 0), .ref o]) rfl ?_
                refine lv_aload_n hx hb dX9_command_128 rfl (lv_at hl 0 rfl) ?_
                refine va_get (D := D) (ci := 7) (C := RX9) (T := TX9) (N := 10) hx hb hts w_2 hown hK hP 0 rfl rfl 9 (by decide) w_3 (fun _ h9 => h9) rfl dX9_command_129 ?_
                refine lv_iconst (v := 2) hx hb dX9_command_132 (by decide) ?_
                refine va_iald hx hb hK hP 5 0 rfl rfl (vp_d rfl) dX9_command_133 ?_
                refine W.eq (g2 := F0 m 134 ls [.int (Q 2), .int (Q 1), .int (Q 0), .ref o]) rfl ?_
                refine callVi (As := [.int (Q 0), .int (Q 1), .int (Q 2)]) (rest := []) (mX9_limits l D cI cC cS _ o q1 q2 q3 q4 q5 S Bg Pa Tx Q st ln u_89 u_90 rs (Q 0) (Q 1) (Q 2)) ⟨hx, hb, hml, hown, hts⟩ (cwV 3 hts gX9_command_X9_limits rfl rfl rfl (by decide +kernel) ⟨Nat.le_of_ble_eq_true rfl, Nat.le_of_ble_eq_true rfl⟩) X0_blind (fun _ _ _ => trivial) hP hK hD hS hA hl [0, 1, 2, 3, 4, 5] rfl rfl 0 7 rfl rfl rfl rfl rfl (Nat.le_of_ble_eq_true rfl) dX9_command_134 ⟨Nat.zero_le _, Nat.zero_le _⟩ (fun _ => rfl) (fun u_ H locs hk96 hP hD hS => ?_)
                obtain ⟨r_95, u_96⟩ := u_
                have hP : va_P D vwCl [(o, .inr (7, [.ref q1, .ref q2, .ref q3, .int st, .ref q4, .int ln, .int u_89, .int (bi u_90), .int rs, .ref q5])), (q1, .inl (cI, 314, .inl u_96)), (q2, .inl (cI, 314, .inl Bg)), (q3, .inl (cI, 1256, .inl Pa)), (q4, .inl (cI, 80, .inl Tx)), (q5, .inl (cI, 5, .inl Q))] H := hP
                have hD : va_D Fr [(o, .inr (7, [.ref q1, .ref q2, .ref q3, .int st, .ref q4, .int ln, .int u_89, .int (bi u_90), .int rs, .ref q5])), (q1, .inl (cI, 314, .inl u_96)), (q2, .inl (cI, 314, .inl Bg)), (q3, .inl (cI, 1256, .inl Pa)), (q4, .inl (cI, 80, .inl Tx)), (q5, .inl (cI, 5, .inl Q))] := hD
                refine W.eq (g2 := F0 m 137 ls [.int r_95]) rfl ?_
                exact endI hx hb hr hlk hP hK hD hS dX9_command_137 (r_95, u_96, Q, u_89, u_90) rfl ⟨(E_20).trans ((fX9_command_20_s S Tx Nu ln ps fu w x2 Q pp f).trans ((if_pos (bi_o c24)).trans ((bd1_e hk86).trans ((if_pos c32).trans ((bd2_e hk90).trans ((if_pos (bi_o c61)).trans ((if_neg c67_0).trans ((if_pos c67_1).trans ((bd2_e hk96).trans rfl))))))))), rfl⟩
              by_cases c67_2 : w = 2
              · refine lv_tableIn (tgt := 138) hx hb dX9_command_67 (by rw [c67_2]; decide) (by rw [c67_2]; decide) (by rw [c67_2]; rfl) (by decide) ?_
                refine lv_aload_n hx hb dX9_command_138 rfl (lv_at hl 0 rfl) ?_
                refine lv_aload_n hx hb dX9_command_139 rfl (lv_at hl 0 rfl) ?_
                refine va_get (D := D) (ci := 7) (C := RX9) (T := TX9) (N := 10) hx hb hts w_2 hown hK hP 0 rfl rfl 9 (by decide) w_3 (fun _ h9 => h9) rfl dX9_command_140 ?_
                refine lv_iconst (v := 0) hx hb dX9_command_143 (by decide) ?_
                refine va_iald hx hb hK hP 5 0 rfl rfl (vp_d rfl) dX9_command_144 ?_
                refine W.eq (g2 := F0 m 145 ls [.int (Q 0), .ref o]) rfl ?_
                refine lv_aload_n hx hb dX9_command_145 rfl (lv_at hl 0 rfl) ?_
                refine va_get (D := D) (ci := 7) (C := RX9) (T := TX9) (N := 10) hx hb hts w_2 hown hK hP 0 rfl rfl 9 (by decide) w_3 (fun _ h9 => h9) rfl dX9_command_146 ?_
                refine lv_iconst (v := 1) hx hb dX9_command_149 (by decide) ?_
                refine va_iald hx hb hK hP 5 0 rfl rfl (vp_d rfl) dX9_command_150 ?_
                refine W.eq (g2 := F0 m 151 ls [.int (Q 1), .int (Q 0), .ref o]) rfl ?_
                refine lv_aload_n hx hb dX9_command_151 rfl (lv_at hl 0 rfl) ?_
                refine va_get (D := D) (ci := 7) (C := RX9) (T := TX9) (N := 10) hx hb hts w_2 hown hK hP 0 rfl rfl 9 (by decide) w_3 (fun _ h9 => h9) rfl dX9_command_152 ?_
                refine lv_iconst (v := 2) hx hb dX9_command_155 (by decide) ?_
                refine va_iald hx hb hK hP 5 0 rfl rfl (vp_d rfl) dX9_command_156 ?_
                refine W.eq (g2 := F0 m 157 ls [.int (Q 2), .int (Q 1), .int (Q 0), .ref o]) rfl ?_
                refine lv_iload_n hx hb dX9_command_157 rfl (lv_at hl 1 rfl) ?_
                refine lv_iconst (v := 2) hx hb dX9_command_158 (by decide) ?_
                refine lv_isub hx hb dX9_command_159 ?_
                refine callVi (As := [.int (Q 0), .int (Q 1), .int (Q 2), .int (w - 2)]) (rest := []) (mX9_calls l D cI cC cS _ o q1 q2 q3 q4 q5 S Bg Pa Tx Q st ln u_89 u_90 rs (Q 0) (Q 1) (Q 2) (w - 2) ho) ⟨hx, hb, hml, hown, hts⟩ (cwV 4 hts gX9_command_X9_calls rfl rfl rfl (by decide +kernel) ⟨Nat.le_of_ble_eq_true rfl, Nat.le_of_ble_eq_true rfl⟩) X0_blind (fun _ _ _ => trivial) hP hK hD hS hA hl [0, 1, 2, 3, 4, 5] rfl rfl 0 7 rfl rfl rfl rfl rfl (Nat.le_of_ble_eq_true rfl) dX9_command_160 ⟨Nat.zero_le _, Nat.zero_le _⟩ (fun _ => rfl) (fun u_ H locs hk99 hP hD hS => ?_)
                obtain ⟨r_98, u_99⟩ := u_
                have hP : va_P D vwCl [(o, .inr (7, [.ref q1, .ref q2, .ref q3, .int st, .ref q4, .int ln, .int u_89, .int (bi u_90), .int rs, .ref q5])), (q1, .inl (cI, 314, .inl u_99)), (q2, .inl (cI, 314, .inl Bg)), (q3, .inl (cI, 1256, .inl Pa)), (q4, .inl (cI, 80, .inl Tx)), (q5, .inl (cI, 5, .inl Q))] H := hP
                have hD : va_D Fr [(o, .inr (7, [.ref q1, .ref q2, .ref q3, .int st, .ref q4, .int ln, .int u_89, .int (bi u_90), .int rs, .ref q5])), (q1, .inl (cI, 314, .inl u_99)), (q2, .inl (cI, 314, .inl Bg)), (q3, .inl (cI, 1256, .inl Pa)), (q4, .inl (cI, 80, .inl Tx)), (q5, .inl (cI, 5, .inl Q))] := hD
                refine W.eq (g2 := F0 m 163 ls [.int r_98]) rfl ?_
                exact endI hx hb hr hlk hP hK hD hS dX9_command_163 (r_98, u_99, Q, u_89, u_90) rfl ⟨(E_20).trans ((fX9_command_20_s S Tx Nu ln ps fu w x2 Q pp f).trans ((if_pos (bi_o c24)).trans ((bd1_e hk86).trans ((if_pos c32).trans ((bd2_e hk90).trans ((if_pos (bi_o c61)).trans ((if_neg c67_0).trans ((if_neg c67_1).trans ((if_pos c67_2).trans ((bd2_e hk99).trans rfl)))))))))), rfl⟩
              by_cases c67_3 : w = 3
              · refine lv_tableIn (tgt := 138) hx hb dX9_command_67 (by rw [c67_3]; decide) (by rw [c67_3]; decide) (by rw [c67_3]; rfl) (by decide) ?_
                refine lv_aload_n hx hb dX9_command_138 rfl (lv_at hl 0 rfl) ?_
                refine lv_aload_n hx hb dX9_command_139 rfl (lv_at hl 0 rfl) ?_
                refine va_get (D := D) (ci := 7) (C := RX9) (T := TX9) (N := 10) hx hb hts w_2 hown hK hP 0 rfl rfl 9 (by decide) w_3 (fun _ h9 => h9) rfl dX9_command_140 ?_
                refine lv_iconst (v := 0) hx hb dX9_command_143 (by decide) ?_
                refine va_iald hx hb hK hP 5 0 rfl rfl (vp_d rfl) dX9_command_144 ?_
                refine W.eq (g2 := F0 m 145 ls [.int (Q 0), .ref o]) rfl ?_
                refine lv_aload_n hx hb dX9_command_145 rfl (lv_at hl 0 rfl) ?_
                refine va_get (D := D) (ci := 7) (C := RX9) (T := TX9) (N := 10) hx hb hts w_2 hown hK hP 0 rfl rfl 9 (by decide) w_3 (fun _ h9 => h9) rfl dX9_command_146 ?_
                refine lv_iconst (v := 1) hx hb dX9_command_149 (by decide) ?_
                refine va_iald hx hb hK hP 5 0 rfl rfl (vp_d rfl) dX9_command_150 ?_
                refine W.eq (g2 := F0 m 151 ls [.int (Q 1), .int (Q 0), .ref o]) rfl ?_
                refine lv_aload_n hx hb dX9_command_151 rfl (lv_at hl 0 rfl) ?_
                refine va_get (D := D) (ci := 7) (C := RX9) (T := TX9) (N := 10) hx hb hts w_2 hown hK hP 0 rfl rfl 9 (by decide) w_3 (fun _ h9 => h9) rfl dX9_command_152 ?_
                refine lv_iconst (v := 2) hx hb dX9_command_155 (by decide) ?_
                refine va_iald hx hb hK hP 5 0 rfl rfl (vp_d rfl) dX9_command_156 ?_
                refine W.eq (g2 := F0 m 157 ls [.int (Q 2), .int (Q 1), .int (Q 0), .ref o]) rfl ?_
                refine lv_iload_n hx hb dX9_command_157 rfl (lv_at hl 1 rfl) ?_
                refine lv_iconst (v := 2) hx hb dX9_command_158 (by decide) ?_
                refine lv_isub hx hb dX9_command_159 ?_
                refine callVi (As := [.int (Q 0), .int (Q 1), .int (Q 2), .int (w - 2)]) (rest := []) (mX9_calls l D cI cC cS _ o q1 q2 q3 q4 q5 S Bg Pa Tx Q st ln u_89 u_90 rs (Q 0) (Q 1) (Q 2) (w - 2) ho) ⟨hx, hb, hml, hown, hts⟩ (cwV 4 hts gX9_command_X9_calls rfl rfl rfl (by decide +kernel) ⟨Nat.le_of_ble_eq_true rfl, Nat.le_of_ble_eq_true rfl⟩) X0_blind (fun _ _ _ => trivial) hP hK hD hS hA hl [0, 1, 2, 3, 4, 5] rfl rfl 0 7 rfl rfl rfl rfl rfl (Nat.le_of_ble_eq_true rfl) dX9_command_160 ⟨Nat.zero_le _, Nat.zero_le _⟩ (fun _ => rfl) (fun u_ H locs hk102 hP hD hS => ?_)
                obtain ⟨r_101, u_102⟩ := u_
                have hP : va_P D vwCl [(o, .inr (7, [.ref q1, .ref q2, .ref q3, .int st, .ref q4, .int ln, .int u_89, .int (bi u_90), .int rs, .ref q5])), (q1, .inl (cI, 314, .inl u_102)), (q2, .inl (cI, 314, .inl Bg)), (q3, .inl (cI, 1256, .inl Pa)), (q4, .inl (cI, 80, .inl Tx)), (q5, .inl (cI, 5, .inl Q))] H := hP
                have hD : va_D Fr [(o, .inr (7, [.ref q1, .ref q2, .ref q3, .int st, .ref q4, .int ln, .int u_89, .int (bi u_90), .int rs, .ref q5])), (q1, .inl (cI, 314, .inl u_102)), (q2, .inl (cI, 314, .inl Bg)), (q3, .inl (cI, 1256, .inl Pa)), (q4, .inl (cI, 80, .inl Tx)), (q5, .inl (cI, 5, .inl Q))] := hD
                refine W.eq (g2 := F0 m 163 ls [.int r_101]) rfl ?_
                exact endI hx hb hr hlk hP hK hD hS dX9_command_163 (r_101, u_102, Q, u_89, u_90) rfl ⟨(E_20).trans ((fX9_command_20_s S Tx Nu ln ps fu w x2 Q pp f).trans ((if_pos (bi_o c24)).trans ((bd1_e hk86).trans ((if_pos c32).trans ((bd2_e hk90).trans ((if_pos (bi_o c61)).trans ((if_neg c67_0).trans ((if_neg c67_1).trans ((if_neg c67_2).trans ((if_pos c67_3).trans ((bd2_e hk102).trans rfl))))))))))), rfl⟩
              by_cases c67_4 : w = 4
              · refine lv_tableIn (tgt := 164) hx hb dX9_command_67 (by rw [c67_4]; decide) (by rw [c67_4]; decide) (by rw [c67_4]; rfl) (by decide) ?_
                refine lv_aload_n hx hb dX9_command_164 rfl (lv_at hl 0 rfl) ?_
                refine lv_aload_n hx hb dX9_command_165 rfl (lv_at hl 0 rfl) ?_
                refine va_get (D := D) (ci := 7) (C := RX9) (T := TX9) (N := 10) hx hb hts w_2 hown hK hP 0 rfl rfl 9 (by decide) w_3 (fun _ h9 => h9) rfl dX9_command_166 ?_
                refine lv_iconst (v := 0) hx hb dX9_command_169 (by decide) ?_
                refine va_iald hx hb hK hP 5 0 rfl rfl (vp_d rfl) dX9_command_170 ?_
                refine W.eq (g2 := F0 m 171 ls [.int (Q 0), .ref o]) rfl ?_
                refine lv_aload_n hx hb dX9_command_171 rfl (lv_at hl 0 rfl) ?_
                refine va_get (D := D) (ci := 7) (C := RX9) (T := TX9) (N := 10) hx hb hts w_2 hown hK hP 0 rfl rfl 9 (by decide) w_3 (fun _ h9 => h9) rfl dX9_command_172 ?_
                refine lv_iconst (v := 1) hx hb dX9_command_175 (by decide) ?_
                refine va_iald hx hb hK hP 5 0 rfl rfl (vp_d rfl) dX9_command_176 ?_
                refine W.eq (g2 := F0 m 177 ls [.int (Q 1), .int (Q 0), .ref o]) rfl ?_
                refine lv_aload_n hx hb dX9_command_177 rfl (lv_at hl 0 rfl) ?_
                refine va_get (D := D) (ci := 7) (C := RX9) (T := TX9) (N := 10) hx hb hts w_2 hown hK hP 0 rfl rfl 9 (by decide) w_3 (fun _ h9 => h9) rfl dX9_command_178 ?_
                refine lv_iconst (v := 2) hx hb dX9_command_181 (by decide) ?_
                refine va_iald hx hb hK hP 5 0 rfl rfl (vp_d rfl) dX9_command_182 ?_
                refine W.eq (g2 := F0 m 183 ls [.int (Q 2), .int (Q 1), .int (Q 0), .ref o]) rfl ?_
                refine lv_aload_n hx hb dX9_command_183 rfl (lv_at hl 0 rfl) ?_
                refine va_get (D := D) (ci := 7) (C := RX9) (T := TX9) (N := 10) hx hb hts w_2 hown hK hP 0 rfl rfl 9 (by decide) w_3 (fun _ h9 => h9) rfl dX9_command_184 ?_
                refine lv_iconst (v := 3) hx hb dX9_command_187 (by decide) ?_
                refine va_iald hx hb hK hP 5 0 rfl rfl (vp_d rfl) dX9_command_188 ?_
                refine W.eq (g2 := F0 m 189 ls [.int (Q 3), .int (Q 2), .int (Q 1), .int (Q 0), .ref o]) rfl ?_
                refine lv_iconst (v := 2) hx hb dX9_command_189 (by decide) ?_
                refine lv_iadd hx hb dX9_command_190 ?_
                refine callVi (As := [.int (Q 0), .int (Q 1), .int (Q 2), .int ((Q 3) + 2)]) (rest := []) (mX9_calls l D cI cC cS _ o q1 q2 q3 q4 q5 S Bg Pa Tx Q st ln u_89 u_90 rs (Q 0) (Q 1) (Q 2) ((Q 3) + 2) ho) ⟨hx, hb, hml, hown, hts⟩ (cwV 4 hts gX9_command_X9_calls rfl rfl rfl (by decide +kernel) ⟨Nat.le_of_ble_eq_true rfl, Nat.le_of_ble_eq_true rfl⟩) X0_blind (fun _ _ _ => trivial) hP hK hD hS hA hl [0, 1, 2, 3, 4, 5] rfl rfl 0 7 rfl rfl rfl rfl rfl (Nat.le_of_ble_eq_true rfl) dX9_command_191 ⟨Nat.zero_le _, Nat.zero_le _⟩ (fun _ => rfl) (fun u_ H locs hk105 hP hD hS => ?_)
                obtain ⟨r_104, u_105⟩ := u_
                have hP : va_P D vwCl [(o, .inr (7, [.ref q1, .ref q2, .ref q3, .int st, .ref q4, .int ln, .int u_89, .int (bi u_90), .int rs, .ref q5])), (q1, .inl (cI, 314, .inl u_105)), (q2, .inl (cI, 314, .inl Bg)), (q3, .inl (cI, 1256, .inl Pa)), (q4, .inl (cI, 80, .inl Tx)), (q5, .inl (cI, 5, .inl Q))] H := hP
                have hD : va_D Fr [(o, .inr (7, [.ref q1, .ref q2, .ref q3, .int st, .ref q4, .int ln, .int u_89, .int (bi u_90), .int rs, .ref q5])), (q1, .inl (cI, 314, .inl u_105)), (q2, .inl (cI, 314, .inl Bg)), (q3, .inl (cI, 1256, .inl Pa)), (q4, .inl (cI, 80, .inl Tx)), (q5, .inl (cI, 5, .inl Q))] := hD
                refine W.eq (g2 := F0 m 194 ls [.int r_104]) rfl ?_
                exact endI hx hb hr hlk hP hK hD hS dX9_command_194 (r_104, u_105, Q, u_89, u_90) rfl ⟨(E_20).trans ((fX9_command_20_s S Tx Nu ln ps fu w x2 Q pp f).trans ((if_pos (bi_o c24)).trans ((bd1_e hk86).trans ((if_pos c32).trans ((bd2_e hk90).trans ((if_pos (bi_o c61)).trans ((if_neg c67_0).trans ((if_neg c67_1).trans ((if_neg c67_2).trans ((if_neg c67_3).trans ((if_pos c67_4).trans ((bd2_e hk105).trans rfl)))))))))))), rfl⟩
              by_cases c67_5 : w = 5
              · refine lv_tableIn (tgt := 195) hx hb dX9_command_67 (by rw [c67_5]; decide) (by rw [c67_5]; decide) (by rw [c67_5]; rfl) (by decide) ?_
                refine lv_aload_n hx hb dX9_command_195 rfl (lv_at hl 0 rfl) ?_
                refine lv_aload_n hx hb dX9_command_196 rfl (lv_at hl 0 rfl) ?_
                refine va_get (D := D) (ci := 7) (C := RX9) (T := TX9) (N := 10) hx hb hts w_2 hown hK hP 0 rfl rfl 9 (by decide) w_3 (fun _ h9 => h9) rfl dX9_command_197 ?_
                refine lv_iconst (v := 0) hx hb dX9_command_200 (by decide) ?_
                refine va_iald hx hb hK hP 5 0 rfl rfl (vp_d rfl) dX9_command_201 ?_
                refine W.eq (g2 := F0 m 202 ls [.int (Q 0), .ref o]) rfl ?_
                refine lv_aload_n hx hb dX9_command_202 rfl (lv_at hl 0 rfl) ?_
                refine va_get (D := D) (ci := 7) (C := RX9) (T := TX9) (N := 10) hx hb hts w_2 hown hK hP 0 rfl rfl 9 (by decide) w_3 (fun _ h9 => h9) rfl dX9_command_203 ?_
                refine lv_iconst (v := 1) hx hb dX9_command_206 (by decide) ?_
                refine va_iald hx hb hK hP 5 0 rfl rfl (vp_d rfl) dX9_command_207 ?_
                refine W.eq (g2 := F0 m 208 ls [.int (Q 1), .int (Q 0), .ref o]) rfl ?_
                refine lv_aload_n hx hb dX9_command_208 rfl (lv_at hl 0 rfl) ?_
                refine va_get (D := D) (ci := 7) (C := RX9) (T := TX9) (N := 10) hx hb hts w_2 hown hK hP 0 rfl rfl 9 (by decide) w_3 (fun _ h9 => h9) rfl dX9_command_209 ?_
                refine lv_iconst (v := 2) hx hb dX9_command_212 (by decide) ?_
                refine va_iald hx hb hK hP 5 0 rfl rfl (vp_d rfl) dX9_command_213 ?_
                refine W.eq (g2 := F0 m 214 ls [.int (Q 2), .int (Q 1), .int (Q 0), .ref o]) rfl ?_
                refine lv_aload_n hx hb dX9_command_214 rfl (lv_at hl 0 rfl) ?_
                refine va_get (D := D) (ci := 7) (C := RX9) (T := TX9) (N := 10) hx hb hts w_2 hown hK hP 0 rfl rfl 9 (by decide) w_3 (fun _ h9 => h9) rfl dX9_command_215 ?_
                refine lv_iconst (v := 3) hx hb dX9_command_218 (by decide) ?_
                refine va_iald hx hb hK hP 5 0 rfl rfl (vp_d rfl) dX9_command_219 ?_
                refine W.eq (g2 := F0 m 220 ls [.int (Q 3), .int (Q 2), .int (Q 1), .int (Q 0), .ref o]) rfl ?_
                refine lv_aload_n hx hb dX9_command_220 rfl (lv_at hl 0 rfl) ?_
                refine va_get (D := D) (ci := 7) (C := RX9) (T := TX9) (N := 10) hx hb hts w_2 hown hK hP 0 rfl rfl 9 (by decide) w_3 (fun _ h9 => h9) rfl dX9_command_221 ?_
                refine lv_iconst (v := 4) hx hb dX9_command_224 (by decide) ?_
                refine va_iald hx hb hK hP 5 0 rfl rfl (vp_d rfl) dX9_command_225 ?_
                refine W.eq (g2 := F0 m 226 ls [.int (Q 4), .int (Q 3), .int (Q 2), .int (Q 1), .int (Q 0), .ref o]) rfl ?_
                refine callVi (As := [.int (Q 0), .int (Q 1), .int (Q 2), .int (Q 3), .int (Q 4)]) (rest := []) (mX9_fixes l D cI cC cS _ o q1 q2 q3 q4 q5 S Bg Pa Tx Q st ln u_89 u_90 rs (Q 0) (Q 1) (Q 2) (Q 3) (Q 4) ho) ⟨hx, hb, hml, hown, hts⟩ (cwV 5 hts gX9_command_X9_fixes rfl rfl rfl (by decide +kernel) ⟨Nat.le_of_ble_eq_true rfl, Nat.le_of_ble_eq_true rfl⟩) X0_blind (fun _ _ _ => trivial) hP hK hD hS hA hl [0, 1, 2, 3, 4, 5] rfl rfl 0 7 rfl rfl rfl rfl rfl (Nat.le_of_ble_eq_true rfl) dX9_command_226 ⟨Nat.zero_le _, Nat.zero_le _⟩ (fun _ => rfl) (fun u_ H locs hk108 hP hD hS => ?_)
                obtain ⟨r_107, u_108⟩ := u_
                have hP : va_P D vwCl [(o, .inr (7, [.ref q1, .ref q2, .ref q3, .int st, .ref q4, .int ln, .int u_89, .int (bi u_90), .int rs, .ref q5])), (q1, .inl (cI, 314, .inl u_108)), (q2, .inl (cI, 314, .inl Bg)), (q3, .inl (cI, 1256, .inl Pa)), (q4, .inl (cI, 80, .inl Tx)), (q5, .inl (cI, 5, .inl Q))] H := hP
                have hD : va_D Fr [(o, .inr (7, [.ref q1, .ref q2, .ref q3, .int st, .ref q4, .int ln, .int u_89, .int (bi u_90), .int rs, .ref q5])), (q1, .inl (cI, 314, .inl u_108)), (q2, .inl (cI, 314, .inl Bg)), (q3, .inl (cI, 1256, .inl Pa)), (q4, .inl (cI, 80, .inl Tx)), (q5, .inl (cI, 5, .inl Q))] := hD
                refine W.eq (g2 := F0 m 229 ls [.int r_107]) rfl ?_
                exact endI hx hb hr hlk hP hK hD hS dX9_command_229 (r_107, u_108, Q, u_89, u_90) rfl ⟨(E_20).trans ((fX9_command_20_s S Tx Nu ln ps fu w x2 Q pp f).trans ((if_pos (bi_o c24)).trans ((bd1_e hk86).trans ((if_pos c32).trans ((bd2_e hk90).trans ((if_pos (bi_o c61)).trans ((if_neg c67_0).trans ((if_neg c67_1).trans ((if_neg c67_2).trans ((if_neg c67_3).trans ((if_neg c67_4).trans ((if_pos c67_5).trans ((bd2_e hk108).trans rfl))))))))))))), rfl⟩
              refine lv_tableOut (tgt := 230) hx hb dX9_command_67 (tab_out (lo := 0) (hi := 5) (by decide) (fun k kk1 kk2 => ?_)) (by decide) ?_
              · rcases (show k = 0 ∨ k = 1 ∨ k = 2 ∨ k = 3 ∨ k = 4 ∨ k = 5 by omega) with rfl | rfl | rfl | rfl | rfl | rfl
                · exact ne_ti c67_0 (by decide)
                · exact ne_ti c67_1 (by decide)
                · exact ne_ti c67_2 (by decide)
                · exact ne_ti c67_3 (by decide)
                · exact ne_ti c67_4 (by decide)
                · exact ne_ti c67_5 (by decide)
              refine lv_aload_n hx hb dX9_command_230 rfl (lv_at hl 0 rfl) ?_
              refine lv_aload_n hx hb dX9_command_231 rfl (lv_at hl 0 rfl) ?_
              refine va_get (D := D) (ci := 7) (C := RX9) (T := TX9) (N := 10) hx hb hts w_2 hown hK hP 0 rfl rfl 9 (by decide) w_3 (fun _ h9 => h9) rfl dX9_command_232 ?_
              refine lv_iconst (v := 0) hx hb dX9_command_235 (by decide) ?_
              refine va_iald hx hb hK hP 5 0 rfl rfl (vp_d rfl) dX9_command_236 ?_
              refine W.eq (g2 := F0 m 237 ls [.int (Q 0), .ref o]) rfl ?_
              refine callVi (As := [.int (Q 0)]) (rest := []) (mX9_passes l D cI cC cS _ o q1 q2 q3 q4 q5 S Bg Pa Tx Q st ln u_89 u_90 rs (Q 0) ho.2.1) ⟨hx, hb, hml, hown, hts⟩ (cwV 1 hts gX9_command_X9_passes rfl rfl rfl (by decide +kernel) ⟨Nat.le_of_ble_eq_true rfl, Nat.le_of_ble_eq_true rfl⟩) X0_blind (fun _ _ _ => trivial) hP hK hD hS hA hl [0, 1, 2, 3, 4, 5] rfl rfl 0 7 rfl rfl rfl rfl rfl (Nat.le_of_ble_eq_true rfl) dX9_command_237 ⟨Nat.zero_le _, Nat.zero_le _⟩ (fun _ => rfl) (fun u_ H locs hk111 hP hD hS => ?_)
              obtain ⟨r_110, u_111⟩ := u_
              have hP : va_P D vwCl [(o, .inr (7, [.ref q1, .ref q2, .ref q3, .int st, .ref q4, .int ln, .int u_89, .int (bi u_90), .int rs, .ref q5])), (q1, .inl (cI, 314, .inl u_111)), (q2, .inl (cI, 314, .inl Bg)), (q3, .inl (cI, 1256, .inl Pa)), (q4, .inl (cI, 80, .inl Tx)), (q5, .inl (cI, 5, .inl Q))] H := hP
              have hD : va_D Fr [(o, .inr (7, [.ref q1, .ref q2, .ref q3, .int st, .ref q4, .int ln, .int u_89, .int (bi u_90), .int rs, .ref q5])), (q1, .inl (cI, 314, .inl u_111)), (q2, .inl (cI, 314, .inl Bg)), (q3, .inl (cI, 1256, .inl Pa)), (q4, .inl (cI, 80, .inl Tx)), (q5, .inl (cI, 5, .inl Q))] := hD
              refine W.eq (g2 := F0 m 240 ls [.int r_110]) rfl ?_
              exact endI hx hb hr hlk hP hK hD hS dX9_command_240 (r_110, u_111, Q, u_89, u_90) rfl ⟨(E_20).trans ((fX9_command_20_s S Tx Nu ln ps fu w x2 Q pp f).trans ((if_pos (bi_o c24)).trans ((bd1_e hk86).trans ((if_pos c32).trans ((bd2_e hk90).trans ((if_pos (bi_o c61)).trans ((if_neg c67_0).trans ((if_neg c67_1).trans ((if_neg c67_2).trans ((if_neg c67_3).trans ((if_neg c67_4).trans ((if_neg c67_5).trans ((bd2_e hk111).trans rfl))))))))))))), rfl⟩
            · refine lv_iconst (v := 0) hx hb dX9_command_64 (by decide) ?_
              exact endI hx hb hr hlk hP hK hD hS dX9_command_65 (0, S, Q, u_89, u_90) rfl ⟨(E_20).trans ((fX9_command_20_s S Tx Nu ln ps fu w x2 Q pp f).trans ((if_pos (bi_o c24)).trans ((bd1_e hk86).trans ((if_pos c32).trans ((bd2_e hk90).trans ((if_neg (bi_z c61)).trans rfl)))))), rfl⟩
          · refine lv_aload_n hx hb dX9_command_35 rfl (lv_at hl 0 rfl) ?_
            refine va_get (D := D) (ci := 7) (C := RX9) (T := TX9) (N := 10) hx hb hts w_2 hown hK hP 0 rfl rfl 9 (by decide) w_3 (fun _ h9 => h9) rfl dX9_command_36 ?_
            refine lv_iload_n hx hb dX9_command_39 rfl (lv_at hl 2 rfl) ?_
            refine lv_aload_n hx hb dX9_command_40 rfl (lv_at hl 0 rfl) ?_
            refine callVi (As := []) (rest := [.int x2, .ref q5]) (mX9_readNumber l D cI cC cS _ o q1 q2 q3 q4 q5 S Bg Pa Tx Q st ln pp f rs hL (cm_q hi)) ⟨hx, hb, hml, hown, hts⟩ (cwV 0 hts gX9_command_X9_readNumber rfl rfl rfl (by decide +kernel) ⟨Nat.le_of_ble_eq_true rfl, Nat.le_of_ble_eq_true rfl⟩) X0_blind (fun _ _ _ => trivial) hP hK hD hS hA hl [0, 1, 2, 3, 4, 5] rfl rfl 0 7 rfl rfl rfl rfl rfl (Nat.le_of_ble_eq_true rfl) dX9_command_41 ⟨Nat.zero_le _, Nat.zero_le _⟩ (fun _ => rfl) (fun u_ H locs hk115 hP hD hS => ?_)
            obtain ⟨r_113, u_114, u_115⟩ := u_
            have hP : va_P D vwCl [(o, .inr (7, [.ref q1, .ref q2, .ref q3, .int st, .ref q4, .int ln, .int u_114, .int (bi u_115), .int rs, .ref q5])), (q1, .inl (cI, 314, .inl S)), (q2, .inl (cI, 314, .inl Bg)), (q3, .inl (cI, 1256, .inl Pa)), (q4, .inl (cI, 80, .inl Tx)), (q5, .inl (cI, 5, .inl Q))] H := hP
            have hD : va_D Fr [(o, .inr (7, [.ref q1, .ref q2, .ref q3, .int st, .ref q4, .int ln, .int u_114, .int (bi u_115), .int rs, .ref q5])), (q1, .inl (cI, 314, .inl S)), (q2, .inl (cI, 314, .inl Bg)), (q3, .inl (cI, 1256, .inl Pa)), (q4, .inl (cI, 80, .inl Tx)), (q5, .inl (cI, 5, .inl Q))] := hD
            refine W.eq (g2 := F0 m 44 ls [.int r_113, .int x2, .ref q5]) rfl ?_
            refine va_iast hx hb hK hP hD hS 5 0 rfl rfl (cm_x hi hk86 hw c32) dX9_command_44 (fun H locs hP hD hS => ?_)
            have hP : va_P D vwCl [(o, .inr (7, [.ref q1, .ref q2, .ref q3, .int st, .ref q4, .int ln, .int u_114, .int (bi u_115), .int rs, .ref q5])), (q1, .inl (cI, 314, .inl S)), (q2, .inl (cI, 314, .inl Bg)), (q3, .inl (cI, 1256, .inl Pa)), (q4, .inl (cI, 80, .inl Tx)), (q5, .inl (cI, 5, .inl (upd Q x2.toNatClampNeg r_113)))] H := hP
            have hD : va_D Fr [(o, .inr (7, [.ref q1, .ref q2, .ref q3, .int st, .ref q4, .int ln, .int u_114, .int (bi u_115), .int rs, .ref q5])), (q1, .inl (cI, 314, .inl S)), (q2, .inl (cI, 314, .inl Bg)), (q3, .inl (cI, 1256, .inl Pa)), (q4, .inl (cI, 80, .inl Tx)), (q5, .inl (cI, 5, .inl (upd Q x2.toNatClampNeg r_113)))] := hD
            refine lv_iinc (v := x2 + 1) (lv' := [(2, .int (x2 + 1)), (0, .ref o), (1, .int w)]) hx hb dX9_command_45 hl (k := 2) rfl (by rfl) (by decide) rfl (fun ls hl => ?_)
            refine lv_goto (tgt := 20) hx hb dX9_command_48 (by decide) ?_
            exact ih_20 w (x2 + 1) (upd Q x2.toNatClampNeg r_113) u_114 u_115 _ _ ls hP hD hS (lv_sub hl [1, 2, 0] rfl) (cm_1 hi hk86 hw c32 hk115) hw (Nat.lt_of_lt_of_le (lp_dec (by rw [hk86]; exact c32)) (Nat.le_of_lt_succ hm_20)) ((E_20).trans ((fX9_command_20_s S Tx Nu ln ps fu w x2 Q pp f).trans ((if_pos (bi_o c24)).trans ((bd1_e hk86).trans ((if_neg c32).trans ((bd3_e hk115).trans rfl))))))
    exact K_20 (((fX9_manyOf r_2).toInt - (0 : Int32).toInt).toNat + 1) r_2 0 Nu u_3 true _ _ ls hP hD hS (lv_sub hl [2, 1, 0] rfl) (cm_0 hk3 hq) (cm_m hk3 hq) (Nat.lt_succ_self _) ((bd2_e hk3).trans ((if_neg c7).trans rfl))

