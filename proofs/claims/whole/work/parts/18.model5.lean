/-- the loop of X9_readNumber at 10 -/
def fX9_readNumber_10 (Tx : Nat → Int32) (ln : Int32) (ps : Int32) (fm : Bool) : Nat → Int32 → Int32 → Int32 → Bool → Int32 × Int32 × Bool
  | 0, _, _, _, _ => default
  | fu + 1, x1, x2, pp, f =>
    (if (3 : Int32) ≤ x2 then (if f = true then (if x2 ≤ 0 then (x1, pp, false) else (x1, pp, true)) else (x1, pp, false)) else bd1 (fX9_here Tx ln pp) (fun (r_6 : Int32) => bd1 (fX9_in r_6 48 57) (fun (r_8 : Bool) => (if r_8 = true then bd1 (fX9_here Tx ln pp) (fun (r_10 : Int32) => bd1 (((10 * x1) + r_10) - 48) (fun (y_11 : Int32) => fX9_readNumber_10 Tx ln ps fm fu y_11 (x2 + 1) (pp + 1) f)) else (if f = true then (if x2 ≤ 0 then (x1, pp, false) else (x1, pp, true)) else (x1, pp, false))))))
theorem fX9_readNumber_10_s (Tx : Nat → Int32) (ln : Int32) (ps : Int32) (fm : Bool) (fu : Nat) (x1 : Int32) (x2 : Int32) (pp : Int32) (f : Bool) : fX9_readNumber_10 Tx ln ps fm (fu + 1) x1 x2 pp f =
    (if (3 : Int32) ≤ x2 then (if f = true then (if x2 ≤ 0 then (x1, pp, false) else (x1, pp, true)) else (x1, pp, false)) else bd1 (fX9_here Tx ln pp) (fun (r_6 : Int32) => bd1 (fX9_in r_6 48 57) (fun (r_8 : Bool) => (if r_8 = true then bd1 (fX9_here Tx ln pp) (fun (r_10 : Int32) => bd1 (((10 * x1) + r_10) - 48) (fun (y_11 : Int32) => fX9_readNumber_10 Tx ln ps fm fu y_11 (x2 + 1) (pp + 1) f)) else (if f = true then (if x2 ≤ 0 then (x1, pp, false) else (x1, pp, true)) else (x1, pp, false)))))) := rfl

/-- the value of X9_readNumber, path by path -/
def fX9_readNumber (Tx : Nat → Int32) (ln : Int32) (ps : Int32) (fm : Bool) : Int32 × Int32 × Bool :=
  bd2 (fX9_must Tx ln ps fm 32) (fun (u_3 : Int32) (u_4 : Bool) => fX9_readNumber_10 Tx ln ps fm (((3 : Int32).toInt - (0 : Int32).toInt).toNat + 1) 0 0 u_3 u_4)

set_option maxHeartbeats 4000000 in
set_option maxRecDepth 100000 in
/-- X9_readNumber -/
theorem mX9_readNumber (l : Launch) (D : va_G) (cI cC cS : ClassId) (sz : Nat) (o : Nat) (q1 : Nat) (q2 : Nat) (q3 : Nat) (q4 : Nat) (q5 : Nat) (S : Nat → Int32) (Bg : Nat → Int32) (Pa : Nat → Int32) (Tx : Nat → Int32) (Nu : Nat → Int32) (st : Int32) (ln : Int32) (ps : Int32) (fm : Bool) (rs : Int32) (hL : vp_in ln 81) (hq : vp_in ps 250) : Met l yX9_readNumber wsX9_readNumber ({ frames := 2, cells := 0, slots := 0, locals := 41 } : Jvm.Room) (va_Pc [.ref o] (wPre D (TY cI cC cS) [(o, .inr (7, [.ref q1, .ref q2, .ref q3, .int st, .ref q4, .int ln, .int ps, .int (bi fm), .int rs, .ref q5])), (q1, .inl (cI, 314, .inl S)), (q2, .inl (cI, 314, .inl Bg)), (q3, .inl (cI, 1256, .inl Pa)), (q4, .inl (cI, 80, .inl Tx)), (q5, .inl (cI, 5, .inl Nu))] sz X0)) (qI D (TY cI cC cS) (fun (r : Int32) (u : Int32 × Int32 × Bool) => fX9_readNumber Tx ln ps fm = u ∧ r = u.1) (fun u => [(o, .inr (7, [.ref q1, .ref q2, .ref q3, .int st, .ref q4, .int ln, .int u.2.1, .int (bi u.2.2), .int rs, .ref q5])), (q1, .inl (cI, 314, .inl S)), (q2, .inl (cI, 314, .inl Bg)), (q3, .inl (cI, 1256, .inl Pa)), (q4, .inl (cI, 80, .inl Tx)), (q5, .inl (cI, 5, .inl Nu))]) (va_A [(o, .inr (7, [.ref q1, .ref q2, .ref q3, .int st, .ref q4, .int ln, .int ps, .int (bi fm), .int rs, .ref q5])), (q1, .inl (cI, 314, .inl S)), (q2, .inl (cI, 314, .inl Bg)), (q3, .inl (cI, 1256, .inl Pa)), (q4, .inl (cI, 80, .inl Tx)), (q5, .inl (cI, 5, .inl Nu))] sz)) 0 0 (va_A [(o, .inr (7, [.ref q1, .ref q2, .ref q3, .int st, .ref q4, .int ln, .int ps, .int (bi fm), .int rs, .ref q5])), (q1, .inl (cI, 314, .inl S)), (q2, .inl (cI, 314, .inl Bg)), (q3, .inl (cI, 1256, .inl Pa)), (q4, .inl (cI, 80, .inl Tx)), (q5, .inl (cI, 5, .inl Nu))] sz) := by
  refine mkM (fun Fr => qI D (TY cI cC cS) (fun (r : Int32) (u : Int32 × Int32 × Bool) => fX9_readNumber Tx ln ps fm = u ∧ r = u.1) (fun u => [(o, .inr (7, [.ref q1, .ref q2, .ref q3, .int st, .ref q4, .int ln, .int u.2.1, .int (bi u.2.2), .int rs, .ref q5])), (q1, .inl (cI, 314, .inl S)), (q2, .inl (cI, 314, .inl Bg)), (q3, .inl (cI, 1256, .inl Pa)), (q4, .inl (cI, 80, .inl Tx)), (q5, .inl (cI, 5, .inl Nu))]) Fr) (cc := cX9_readNumber) (maxL := 3) (ret := (some .int)) (own := RX9) (lv := [(0, .ref o)]) (by decide) rfl rfl (Nat.le_of_ble_eq_true rfl) rfl ?_
  intro p e s m below meth c Fr ls hx hb hr hts hown hml hlk hin hP hK hD hS hA hAe hsz hX hl
  have w_1 := hts (.fieldLink RX9 148 "FieldQuotasModel" "isForm" "Z") (List.mem_of_getElem? (i := 2) rfl)
  have w_2 := sub_r (big := wsX9_readNumber) (u_ws RX9 TX9 10) [17, 18, 19, 20, 21, 22, 23, 24, 25, 26] rfl
  have w_3 := hts (.fieldLink RX9 145 "FieldQuotasModel" "at" "I") (List.mem_of_getElem? (i := 1) rfl)
  refine lv_aload_n hx hb dX9_readNumber_0 rfl (lv_at hl 0 rfl) ?_
  refine lv_bipush (v := 32) hx hb dX9_readNumber_1 (by decide) ?_
  refine callVv (As := [.int 32]) (rest := []) (mX9_must l D cI cC cS _ o q1 q2 q3 q4 q5 S Bg Pa Tx Nu st ln ps fm rs 32 hL (vp_nn hq)) ⟨hx, hb, hml, hown, hts⟩ (cwV 1 hts gX9_readNumber_X9_must rfl rfl rfl (by decide +kernel) ⟨Nat.le_of_ble_eq_true rfl, Nat.le_of_ble_eq_true rfl⟩) X0_blind (fun _ _ _ => trivial) hP hK hD hS hA hl [0, 1, 2, 3, 4, 5] rfl rfl 0 7 rfl rfl rfl rfl rfl (Nat.le_of_ble_eq_true rfl) dX9_readNumber_3 ⟨Nat.zero_le _, Nat.zero_le _⟩ (fun _ => rfl) (fun u_ H locs hk4 hP hD hS => ?_)
  obtain ⟨u_3, u_4⟩ := u_
  have hP : va_P D vwCl [(o, .inr (7, [.ref q1, .ref q2, .ref q3, .int st, .ref q4, .int ln, .int u_3, .int (bi u_4), .int rs, .ref q5])), (q1, .inl (cI, 314, .inl S)), (q2, .inl (cI, 314, .inl Bg)), (q3, .inl (cI, 1256, .inl Pa)), (q4, .inl (cI, 80, .inl Tx)), (q5, .inl (cI, 5, .inl Nu))] H := hP
  have hD : va_D Fr [(o, .inr (7, [.ref q1, .ref q2, .ref q3, .int st, .ref q4, .int ln, .int u_3, .int (bi u_4), .int rs, .ref q5])), (q1, .inl (cI, 314, .inl S)), (q2, .inl (cI, 314, .inl Bg)), (q3, .inl (cI, 1256, .inl Pa)), (q4, .inl (cI, 80, .inl Tx)), (q5, .inl (cI, 5, .inl Nu))] := hD
  refine W.eq (g2 := F0 m 6 ls []) rfl ?_
  refine lv_iconst (v := 0) hx hb dX9_readNumber_6 (by decide) ?_
  refine lv_istore_n (lv' := [(1, .int 0), (0, .ref o)]) hx hb dX9_readNumber_7 rfl hl (by decide) rfl (fun ls hl => ?_)
  refine lv_iconst (v := 0) hx hb dX9_readNumber_8 (by decide) ?_
  refine lv_istore_n (lv' := [(2, .int 0), (1, .int 0), (0, .ref o)]) hx hb dX9_readNumber_9 rfl hl (by decide) rfl (fun ls hl => ?_)
  have K_10 : ∀ (fu : Nat) (x1 : Int32) (x2 : Int32) (pp : Int32) (f : Bool) (H : Heap) (locs : List Loc) (ls : Array Slot), va_P D vwCl [(o, .inr (7, [.ref q1, .ref q2, .ref q3, .int st, .ref q4, .int ln, .int pp, .int (bi f), .int rs, .ref q5])), (q1, .inl (cI, 314, .inl S)), (q2, .inl (cI, 314, .inl Bg)), (q3, .inl (cI, 1256, .inl Pa)), (q4, .inl (cI, 80, .inl Tx)), (q5, .inl (cI, 5, .inl Nu))] H → va_D Fr [(o, .inr (7, [.ref q1, .ref q2, .ref q3, .int st, .ref q4, .int ln, .int pp, .int (bi f), .int rs, .ref q5])), (q1, .inl (cI, 314, .inl S)), (q2, .inl (cI, 314, .inl Bg)), (q3, .inl (cI, 1256, .inl Pa)), (q4, .inl (cI, 80, .inl Tx)), (q5, .inl (cI, 5, .inl Nu))] → va_S Fr s.heap H locs → lv_has ls 3 [(0, .ref o), (1, .int x1), (2, .int x2)] → (rnI pp x2) → ((3 : Int32).toInt - x2.toInt).toNat < fu → fX9_readNumber Tx ln ps fm = fX9_readNumber_10 Tx ln ps fm fu x1 x2 pp f → W p l e (headSpec wsX9_readNumber ({ frames := 2, cells := 0, slots := 0, locals := 41 } : Jvm.Room)).room s m ([.ref o] : List Value).toArray below meth c H locs 0 0 (MQ below (qI D (TY cI cC cS) (fun (r : Int32) (u : Int32 × Int32 × Bool) => fX9_readNumber Tx ln ps fm = u ∧ r = u.1) (fun u => [(o, .inr (7, [.ref q1, .ref q2, .ref q3, .int st, .ref q4, .int ln, .int u.2.1, .int (bi u.2.2), .int rs, .ref q5])), (q1, .inl (cI, 314, .inl S)), (q2, .inl (cI, 314, .inl Bg)), (q3, .inl (cI, 1256, .inl Pa)), (q4, .inl (cI, 80, .inl Tx)), (q5, .inl (cI, 5, .inl Nu))]) Fr) ([.ref o] : List Value).toArray s 0 0 Fr) (F0 m 10 ls []) := by
    intro fu
    induction fu with
    | zero => intros; exact absurd (by assumption) (Nat.not_lt_zero _)
    | succ fu ih_10 =>
      intro x1 x2 pp f H locs ls hP hD hS hl hi hm_10 E_10
      refine lv_iload_n hx hb dX9_readNumber_10 rfl (lv_at hl 2 rfl) ?_
      refine lv_iconst (v := 3) hx hb dX9_readNumber_11 (by decide) ?_
      refine lv_icmp_ge (tgt := 58) hx hb dX9_readNumber_12 (by decide) (fun c12 => ?_) (fun c12 => ?_)
      · refine lv_aload_n hx hb dX9_readNumber_58 rfl (lv_at hl 0 rfl) ?_
        refine lv_aload_n hx hb dX9_readNumber_59 rfl (lv_at hl 0 rfl) ?_
        refine va_get (D := D) (ci := 7) (C := RX9) (T := TX9) (N := 10) hx hb hts w_2 hown hK hP 0 rfl rfl 7 (by decide) w_1 (fun _ h9 => h9) rfl dX9_readNumber_60 ?_
        refine lv_if_eq (tgt := 74) hx hb dX9_readNumber_63 (by decide) (fun c63 => ?_) (fun c63 => ?_)
        · refine lv_iconst (v := 0) hx hb dX9_readNumber_74 (by decide) ?_
          refine va_put (D := D) (ci := 7) (v := .int 0) (ty := .boolean) (C := RX9) (T := TX9) (N := 10) hx hb hts w_2 tyX9 tyX9_ok nmX9 hown hK hP hD hS 0 rfl rfl 7 (by decide) w_1 (fun _ h9 => h9) rfl (by decide +kernel) rfl rfl (Nat.le_of_ble_eq_true rfl) dX9_readNumber_75 (fun H locs hP hD hS => ?_)
          have hP : va_P D vwCl [(o, .inr (7, [.ref q1, .ref q2, .ref q3, .int st, .ref q4, .int ln, .int pp, .int 0, .int rs, .ref q5])), (q1, .inl (cI, 314, .inl S)), (q2, .inl (cI, 314, .inl Bg)), (q3, .inl (cI, 1256, .inl Pa)), (q4, .inl (cI, 80, .inl Tx)), (q5, .inl (cI, 5, .inl Nu))] H := hP
          have hD : va_D Fr [(o, .inr (7, [.ref q1, .ref q2, .ref q3, .int st, .ref q4, .int ln, .int pp, .int 0, .int rs, .ref q5])), (q1, .inl (cI, 314, .inl S)), (q2, .inl (cI, 314, .inl Bg)), (q3, .inl (cI, 1256, .inl Pa)), (q4, .inl (cI, 80, .inl Tx)), (q5, .inl (cI, 5, .inl Nu))] := hD
          refine lv_iload_n hx hb dX9_readNumber_78 rfl (lv_at hl 1 rfl) ?_
          exact endI hx hb hr hlk hP hK hD hS dX9_readNumber_79 (x1, pp, false) rfl ⟨(E_10).trans ((fX9_readNumber_10_s Tx ln ps fm fu x1 x2 pp f).trans ((if_pos c12).trans ((if_neg (bi_z c63)).trans rfl))), rfl⟩
        · refine lv_iload_n hx hb dX9_readNumber_66 rfl (lv_at hl 2 rfl) ?_
          refine lv_if_le (tgt := 74) hx hb dX9_readNumber_67 (by decide) (fun c67 => ?_) (fun c67 => ?_)
          · refine lv_iconst (v := 0) hx hb dX9_readNumber_74 (by decide) ?_
            refine va_put (D := D) (ci := 7) (v := .int 0) (ty := .boolean) (C := RX9) (T := TX9) (N := 10) hx hb hts w_2 tyX9 tyX9_ok nmX9 hown hK hP hD hS 0 rfl rfl 7 (by decide) w_1 (fun _ h9 => h9) rfl (by decide +kernel) rfl rfl (Nat.le_of_ble_eq_true rfl) dX9_readNumber_75 (fun H locs hP hD hS => ?_)
            have hP : va_P D vwCl [(o, .inr (7, [.ref q1, .ref q2, .ref q3, .int st, .ref q4, .int ln, .int pp, .int 0, .int rs, .ref q5])), (q1, .inl (cI, 314, .inl S)), (q2, .inl (cI, 314, .inl Bg)), (q3, .inl (cI, 1256, .inl Pa)), (q4, .inl (cI, 80, .inl Tx)), (q5, .inl (cI, 5, .inl Nu))] H := hP
            have hD : va_D Fr [(o, .inr (7, [.ref q1, .ref q2, .ref q3, .int st, .ref q4, .int ln, .int pp, .int 0, .int rs, .ref q5])), (q1, .inl (cI, 314, .inl S)), (q2, .inl (cI, 314, .inl Bg)), (q3, .inl (cI, 1256, .inl Pa)), (q4, .inl (cI, 80, .inl Tx)), (q5, .inl (cI, 5, .inl Nu))] := hD
            refine lv_iload_n hx hb dX9_readNumber_78 rfl (lv_at hl 1 rfl) ?_
            exact endI hx hb hr hlk hP hK hD hS dX9_readNumber_79 (x1, pp, false) rfl ⟨(E_10).trans ((fX9_readNumber_10_s Tx ln ps fm fu x1 x2 pp f).trans ((if_pos c12).trans ((if_pos (bi_o c63)).trans ((if_pos c67).trans rfl)))), rfl⟩
          · refine lv_iconst (v := 1) hx hb dX9_readNumber_70 (by decide) ?_
            refine lv_goto (tgt := 75) hx hb dX9_readNumber_71 (by decide) ?_
            refine va_put (D := D) (ci := 7) (v := .int 1) (ty := .boolean) (C := RX9) (T := TX9) (N := 10) hx hb hts w_2 tyX9 tyX9_ok nmX9 hown hK hP hD hS 0 rfl rfl 7 (by decide) w_1 (fun _ h9 => h9) rfl (by decide +kernel) rfl rfl (Nat.le_of_ble_eq_true rfl) dX9_readNumber_75 (fun H locs hP hD hS => ?_)
            have hP : va_P D vwCl [(o, .inr (7, [.ref q1, .ref q2, .ref q3, .int st, .ref q4, .int ln, .int pp, .int 1, .int rs, .ref q5])), (q1, .inl (cI, 314, .inl S)), (q2, .inl (cI, 314, .inl Bg)), (q3, .inl (cI, 1256, .inl Pa)), (q4, .inl (cI, 80, .inl Tx)), (q5, .inl (cI, 5, .inl Nu))] H := hP
            have hD : va_D Fr [(o, .inr (7, [.ref q1, .ref q2, .ref q3, .int st, .ref q4, .int ln, .int pp, .int 1, .int rs, .ref q5])), (q1, .inl (cI, 314, .inl S)), (q2, .inl (cI, 314, .inl Bg)), (q3, .inl (cI, 1256, .inl Pa)), (q4, .inl (cI, 80, .inl Tx)), (q5, .inl (cI, 5, .inl Nu))] := hD
            refine lv_iload_n hx hb dX9_readNumber_78 rfl (lv_at hl 1 rfl) ?_
            exact endI hx hb hr hlk hP hK hD hS dX9_readNumber_79 (x1, pp, true) rfl ⟨(E_10).trans ((fX9_readNumber_10_s Tx ln ps fm fu x1 x2 pp f).trans ((if_pos c12).trans ((if_pos (bi_o c63)).trans ((if_neg c67).trans rfl)))), rfl⟩
      · refine lv_aload_n hx hb dX9_readNumber_15 rfl (lv_at hl 0 rfl) ?_
        refine callVi (As := []) (rest := []) (mX9_here l D cI cC cS _ o q1 q2 q3 q4 q5 S Bg Pa Tx Nu st ln pp f rs hL (rn_nn hi)) ⟨hx, hb, hml, hown, hts⟩ (cwV 0 hts gX9_readNumber_X9_here rfl rfl rfl (by decide +kernel) ⟨Nat.le_of_ble_eq_true rfl, Nat.le_of_ble_eq_true rfl⟩) X0_blind (fun _ _ _ => trivial) hP hK hD hS hA hl [0, 1, 2, 3, 4, 5] rfl rfl 0 7 rfl rfl rfl rfl rfl (Nat.le_of_ble_eq_true rfl) dX9_readNumber_16 ⟨Nat.zero_le _, Nat.zero_le _⟩ (fun _ => rfl) (fun u_ H locs hk6 hP hD hS => ?_)
        obtain ⟨r_6, e_r_6⟩ : ∃ z, z = u_ := ⟨_, rfl⟩
        subst e_r_6
        have hP : va_P D vwCl [(o, .inr (7, [.ref q1, .ref q2, .ref q3, .int st, .ref q4, .int ln, .int pp, .int (bi f), .int rs, .ref q5])), (q1, .inl (cI, 314, .inl S)), (q2, .inl (cI, 314, .inl Bg)), (q3, .inl (cI, 1256, .inl Pa)), (q4, .inl (cI, 80, .inl Tx)), (q5, .inl (cI, 5, .inl Nu))] H := hP
        have hD : va_D Fr [(o, .inr (7, [.ref q1, .ref q2, .ref q3, .int st, .ref q4, .int ln, .int pp, .int (bi f), .int rs, .ref q5])), (q1, .inl (cI, 314, .inl S)), (q2, .inl (cI, 314, .inl Bg)), (q3, .inl (cI, 1256, .inl Pa)), (q4, .inl (cI, 80, .inl Tx)), (q5, .inl (cI, 5, .inl Nu))] := hD
        refine W.eq (g2 := F0 m 19 ls [.int r_6]) rfl ?_
        refine lv_bipush (v := 48) hx hb dX9_readNumber_19 (by decide) ?_
        refine lv_bipush (v := 57) hx hb dX9_readNumber_21 (by decide) ?_
        refine callSi (As := [.int r_6, .int 48, .int 57]) (rest := []) (mX9_in l D cI cC cS _ r_6 48 57) ⟨hx, hb, hml, hown, hts⟩ (va_cwS 3 hts gX9_readNumber_X9_in rfl rfl rfl (by decide +kernel) ⟨Nat.le_of_ble_eq_true rfl, Nat.le_of_ble_eq_true rfl⟩) hP hK hD hS hA hl rfl rfl (Nat.le_of_ble_eq_true rfl) dX9_readNumber_23 ⟨Nat.zero_le _, Nat.zero_le _⟩ (fun u_ H locs hk8 hP hS => ?_)
        obtain ⟨r_8, e_r_8⟩ : ∃ z, z = u_ := ⟨_, rfl⟩
        subst e_r_8
        refine W.eq (g2 := F0 m 26 ls [.int (bi r_8)]) rfl ?_
        refine lv_if_eq (tgt := 58) hx hb dX9_readNumber_26 (by decide) (fun c26 => ?_) (fun c26 => ?_)
        · refine lv_aload_n hx hb dX9_readNumber_58 rfl (lv_at hl 0 rfl) ?_
          refine lv_aload_n hx hb dX9_readNumber_59 rfl (lv_at hl 0 rfl) ?_
          refine va_get (D := D) (ci := 7) (C := RX9) (T := TX9) (N := 10) hx hb hts w_2 hown hK hP 0 rfl rfl 7 (by decide) w_1 (fun _ h9 => h9) rfl dX9_readNumber_60 ?_
          refine lv_if_eq (tgt := 74) hx hb dX9_readNumber_63 (by decide) (fun c63 => ?_) (fun c63 => ?_)
          · refine lv_iconst (v := 0) hx hb dX9_readNumber_74 (by decide) ?_
            refine va_put (D := D) (ci := 7) (v := .int 0) (ty := .boolean) (C := RX9) (T := TX9) (N := 10) hx hb hts w_2 tyX9 tyX9_ok nmX9 hown hK hP hD hS 0 rfl rfl 7 (by decide) w_1 (fun _ h9 => h9) rfl (by decide +kernel) rfl rfl (Nat.le_of_ble_eq_true rfl) dX9_readNumber_75 (fun H locs hP hD hS => ?_)
            have hP : va_P D vwCl [(o, .inr (7, [.ref q1, .ref q2, .ref q3, .int st, .ref q4, .int ln, .int pp, .int 0, .int rs, .ref q5])), (q1, .inl (cI, 314, .inl S)), (q2, .inl (cI, 314, .inl Bg)), (q3, .inl (cI, 1256, .inl Pa)), (q4, .inl (cI, 80, .inl Tx)), (q5, .inl (cI, 5, .inl Nu))] H := hP
            have hD : va_D Fr [(o, .inr (7, [.ref q1, .ref q2, .ref q3, .int st, .ref q4, .int ln, .int pp, .int 0, .int rs, .ref q5])), (q1, .inl (cI, 314, .inl S)), (q2, .inl (cI, 314, .inl Bg)), (q3, .inl (cI, 1256, .inl Pa)), (q4, .inl (cI, 80, .inl Tx)), (q5, .inl (cI, 5, .inl Nu))] := hD
            refine lv_iload_n hx hb dX9_readNumber_78 rfl (lv_at hl 1 rfl) ?_
            exact endI hx hb hr hlk hP hK hD hS dX9_readNumber_79 (x1, pp, false) rfl ⟨(E_10).trans ((fX9_readNumber_10_s Tx ln ps fm fu x1 x2 pp f).trans ((if_neg c12).trans ((bd1_e hk6).trans ((bd1_e hk8).trans ((if_neg (bi_z c26)).trans ((if_neg (bi_z c63)).trans rfl)))))), rfl⟩
          · refine lv_iload_n hx hb dX9_readNumber_66 rfl (lv_at hl 2 rfl) ?_
            refine lv_if_le (tgt := 74) hx hb dX9_readNumber_67 (by decide) (fun c67 => ?_) (fun c67 => ?_)
            · refine lv_iconst (v := 0) hx hb dX9_readNumber_74 (by decide) ?_
              refine va_put (D := D) (ci := 7) (v := .int 0) (ty := .boolean) (C := RX9) (T := TX9) (N := 10) hx hb hts w_2 tyX9 tyX9_ok nmX9 hown hK hP hD hS 0 rfl rfl 7 (by decide) w_1 (fun _ h9 => h9) rfl (by decide +kernel) rfl rfl (Nat.le_of_ble_eq_true rfl) dX9_readNumber_75 (fun H locs hP hD hS => ?_)
              have hP : va_P D vwCl [(o, .inr (7, [.ref q1, .ref q2, .ref q3, .int st, .ref q4, .int ln, .int pp, .int 0, .int rs, .ref q5])), (q1, .inl (cI, 314, .inl S)), (q2, .inl (cI, 314, .inl Bg)), (q3, .inl (cI, 1256, .inl Pa)), (q4, .inl (cI, 80, .inl Tx)), (q5, .inl (cI, 5, .inl Nu))] H := hP
              have hD : va_D Fr [(o, .inr (7, [.ref q1, .ref q2, .ref q3, .int st, .ref q4, .int ln, .int pp, .int 0, .int rs, .ref q5])), (q1, .inl (cI, 314, .inl S)), (q2, .inl (cI, 314, .inl Bg)), (q3, .inl (cI, 1256, .inl Pa)), (q4, .inl (cI, 80, .inl Tx)), (q5, .inl (cI, 5, .inl Nu))] := hD
              refine lv_iload_n hx hb dX9_readNumber_78 rfl (lv_at hl 1 rfl) ?_
              exact endI hx hb hr hlk hP hK hD hS dX9_readNumber_79 (x1, pp, false) rfl ⟨(E_10).trans ((fX9_readNumber_10_s Tx ln ps fm fu x1 x2 pp f).trans ((if_neg c12).trans ((bd1_e hk6).trans ((bd1_e hk8).trans ((if_neg (bi_z c26)).trans ((if_pos (bi_o c63)).trans ((if_pos c67).trans rfl))))))), rfl⟩
            · refine lv_iconst (v := 1) hx hb dX9_readNumber_70 (by decide) ?_
              refine lv_goto (tgt := 75) hx hb dX9_readNumber_71 (by decide) ?_
              refine va_put (D := D) (ci := 7) (v := .int 1) (ty := .boolean) (C := RX9) (T := TX9) (N := 10) hx hb hts w_2 tyX9 tyX9_ok nmX9 hown hK hP hD hS 0 rfl rfl 7 (by decide) w_1 (fun _ h9 => h9) rfl (by decide +kernel) rfl rfl (Nat.le_of_ble_eq_true rfl) dX9_readNumber_75 (fun H locs hP hD hS => ?_)
              have hP : va_P D vwCl [(o, .inr (7, [.ref q1, .ref q2, .ref q3, .int st, .ref q4, .int ln, .int pp, .int 1, .int rs, .ref q5])), (q1, .inl (cI, 314, .inl S)), (q2, .inl (cI, 314, .inl Bg)), (q3, .inl (cI, 1256, .inl Pa)), (q4, .inl (cI, 80, .inl Tx)), (q5, .inl (cI, 5, .inl Nu))] H := hP
              have hD : va_D Fr [(o, .inr (7, [.ref q1, .ref q2, .ref q3, .int st, .ref q4, .int ln, .int pp, .int 1, .int rs, .ref q5])), (q1, .inl (cI, 314, .inl S)), (q2, .inl (cI, 314, .inl Bg)), (q3, .inl (cI, 1256, .inl Pa)), (q4, .inl (cI, 80, .inl Tx)), (q5, .inl (cI, 5, .inl Nu))] := hD
              refine lv_iload_n hx hb dX9_readNumber_78 rfl (lv_at hl 1 rfl) ?_
              exact endI hx hb hr hlk hP hK hD hS dX9_readNumber_79 (x1, pp, true) rfl ⟨(E_10).trans ((fX9_readNumber_10_s Tx ln ps fm fu x1 x2 pp f).trans ((if_neg c12).trans ((bd1_e hk6).trans ((bd1_e hk8).trans ((if_neg (bi_z c26)).trans ((if_pos (bi_o c63)).trans ((if_neg c67).trans rfl))))))), rfl⟩
        · refine lv_bipush (v := 10) hx hb dX9_readNumber_29 (by decide) ?_
          refine lv_iload_n hx hb dX9_readNumber_31 rfl (lv_at hl 1 rfl) ?_
          refine lv_imul hx hb dX9_readNumber_32 ?_
          refine lv_aload_n hx hb dX9_readNumber_33 rfl (lv_at hl 0 rfl) ?_
          refine callVi (As := []) (rest := [.int (10 * x1)]) (mX9_here l D cI cC cS _ o q1 q2 q3 q4 q5 S Bg Pa Tx Nu st ln pp f rs hL (rn_nn hi)) ⟨hx, hb, hml, hown, hts⟩ (cwV 0 hts gX9_readNumber_X9_here rfl rfl rfl (by decide +kernel) ⟨Nat.le_of_ble_eq_true rfl, Nat.le_of_ble_eq_true rfl⟩) X0_blind (fun _ _ _ => trivial) hP hK hD hS hA hl [0, 1, 2, 3, 4, 5] rfl rfl 0 7 rfl rfl rfl rfl rfl (Nat.le_of_ble_eq_true rfl) dX9_readNumber_34 ⟨Nat.zero_le _, Nat.zero_le _⟩ (fun _ => rfl) (fun u_ H locs hk10 hP hD hS => ?_)
          obtain ⟨r_10, e_r_10⟩ : ∃ z, z = u_ := ⟨_, rfl⟩
          subst e_r_10
          have hP : va_P D vwCl [(o, .inr (7, [.ref q1, .ref q2, .ref q3, .int st, .ref q4, .int ln, .int pp, .int (bi f), .int rs, .ref q5])), (q1, .inl (cI, 314, .inl S)), (q2, .inl (cI, 314, .inl Bg)), (q3, .inl (cI, 1256, .inl Pa)), (q4, .inl (cI, 80, .inl Tx)), (q5, .inl (cI, 5, .inl Nu))] H := hP
          have hD : va_D Fr [(o, .inr (7, [.ref q1, .ref q2, .ref q3, .int st, .ref q4, .int ln, .int pp, .int (bi f), .int rs, .ref q5])), (q1, .inl (cI, 314, .inl S)), (q2, .inl (cI, 314, .inl Bg)), (q3, .inl (cI, 1256, .inl Pa)), (q4, .inl (cI, 80, .inl Tx)), (q5, .inl (cI, 5, .inl Nu))] := hD
          refine W.eq (g2 := F0 m 37 ls [.int r_10, .int (10 * x1)]) rfl ?_
          refine lv_iadd hx hb dX9_readNumber_37 ?_
          refine lv_bipush (v := 48) hx hb dX9_readNumber_38 (by decide) ?_
          refine lv_isub hx hb dX9_readNumber_40 ?_
          refine lv_topi (fun y_11 ey_11 => ?_)
          refine lv_istore_n (lv' := [(1, .int y_11), (0, .ref o), (2, .int x2)]) hx hb dX9_readNumber_41 rfl hl (by decide) rfl (fun ls hl => ?_)
          refine lv_iinc (v := x2 + 1) (lv' := [(2, .int (x2 + 1)), (1, .int y_11), (0, .ref o)]) hx hb dX9_readNumber_42 hl (k := 2) rfl (by rfl) (by decide) rfl (fun ls hl => ?_)
          refine lv_aload_n hx hb dX9_readNumber_45 rfl (lv_at hl 2 rfl) ?_
          refine lv_dup hx hb dX9_readNumber_46 rfl ?_
          refine va_get (D := D) (ci := 7) (C := RX9) (T := TX9) (N := 10) hx hb hts w_2 hown hK hP 0 rfl rfl 6 (by decide) w_3 (fun _ h9 => h9) rfl dX9_readNumber_47 ?_
          refine lv_iconst (v := 1) hx hb dX9_readNumber_50 (by decide) ?_
          refine lv_iadd hx hb dX9_readNumber_51 ?_
          refine va_put (D := D) (ci := 7) (v := .int (pp + 1)) (ty := .int) (C := RX9) (T := TX9) (N := 10) hx hb hts w_2 tyX9 tyX9_ok nmX9 hown hK hP hD hS 0 rfl rfl 6 (by decide) w_3 (fun _ h9 => h9) rfl (by decide +kernel) rfl rfl (Nat.le_of_ble_eq_true rfl) dX9_readNumber_52 (fun H locs hP hD hS => ?_)
          have hP : va_P D vwCl [(o, .inr (7, [.ref q1, .ref q2, .ref q3, .int st, .ref q4, .int ln, .int (pp + 1), .int (bi f), .int rs, .ref q5])), (q1, .inl (cI, 314, .inl S)), (q2, .inl (cI, 314, .inl Bg)), (q3, .inl (cI, 1256, .inl Pa)), (q4, .inl (cI, 80, .inl Tx)), (q5, .inl (cI, 5, .inl Nu))] H := hP
          have hD : va_D Fr [(o, .inr (7, [.ref q1, .ref q2, .ref q3, .int st, .ref q4, .int ln, .int (pp + 1), .int (bi f), .int rs, .ref q5])), (q1, .inl (cI, 314, .inl S)), (q2, .inl (cI, 314, .inl Bg)), (q3, .inl (cI, 1256, .inl Pa)), (q4, .inl (cI, 80, .inl Tx)), (q5, .inl (cI, 5, .inl Nu))] := hD
          refine lv_goto (tgt := 10) hx hb dX9_readNumber_55 (by decide) ?_
          exact ih_10 y_11 (x2 + 1) (pp + 1) f _ _ ls hP hD hS (lv_sub hl [2, 1, 0] rfl) (rn_1 hi c12) (Nat.lt_of_lt_of_le (lp_dec c12) (Nat.le_of_lt_succ hm_10)) ((E_10).trans ((fX9_readNumber_10_s Tx ln ps fm fu x1 x2 pp f).trans ((if_neg c12).trans ((bd1_e hk6).trans ((bd1_e hk8).trans ((if_pos (bi_o c26)).trans ((bd1_e hk10).trans ((bd1_n ey_11).trans rfl))))))))
  exact K_10 (((3 : Int32).toInt - (0 : Int32).toInt).toNat + 1) 0 0 u_3 u_4 _ _ ls hP hD hS (lv_sub hl [2, 1, 0] rfl) (rn_0 hk4 hq) (Nat.lt_succ_self _) ((bd2_e hk4).trans rfl)

/-- the loop of X9_readWord at 54 -/
def fX9_readWord_54 (Tx : Nat → Int32) (ln : Int32) (ps : Int32) : Nat → Int64 → Int32 → Int32 → Int32 × Int32
  | 0, _, _, _ => default
  | fu + 1, w, x4, pp =>
    (if (7 : Int32) ≤ x4 then ((-1), pp) else bd1 (fX9_wordOf x4) (fun (r_2 : Int64) => (if lg_cmp r_2 w = 0 then (x4, pp) else fX9_readWord_54 Tx ln ps fu w (x4 + 1) pp)))
theorem fX9_readWord_54_s (Tx : Nat → Int32) (ln : Int32) (ps : Int32) (fu : Nat) (w : Int64) (x4 : Int32) (pp : Int32) : fX9_readWord_54 Tx ln ps (fu + 1) w x4 pp =
    (if (7 : Int32) ≤ x4 then ((-1), pp) else bd1 (fX9_wordOf x4) (fun (r_2 : Int64) => (if lg_cmp r_2 w = 0 then (x4, pp) else fX9_readWord_54 Tx ln ps fu w (x4 + 1) pp))) := rfl

/-- the loop of X9_readWord at 4 -/
def fX9_readWord_4 (Tx : Nat → Int32) (ln : Int32) (ps : Int32) : Nat → Int64 → Int32 → Int32 → Int32 × Int32
  | 0, _, _, _ => default
  | fu + 1, w, x3, pp =>
    (if (7 : Int32) ≤ x3 then fX9_readWord_54 Tx ln ps (((7 : Int32).toInt - (0 : Int32).toInt).toNat + 1) w 0 pp else bd1 (fX9_here Tx ln pp) (fun (r_4 : Int32) => bd1 (fX9_in r_4 97 122) (fun (r_6 : Bool) => (if r_6 = true then bd1 (fX9_here Tx ln pp) (fun (r_10 : Int32) => fX9_readWord_4 Tx ln ps fu ((w <<< ((8 : Int32).toInt64 &&& 63)) ||| r_10.toInt64) (x3 + 1) (pp + 1)) else fX9_readWord_54 Tx ln ps (((7 : Int32).toInt - (0 : Int32).toInt).toNat + 1) w 0 pp))))
theorem fX9_readWord_4_s (Tx : Nat → Int32) (ln : Int32) (ps : Int32) (fu : Nat) (w : Int64) (x3 : Int32) (pp : Int32) : fX9_readWord_4 Tx ln ps (fu + 1) w x3 pp =
    (if (7 : Int32) ≤ x3 then fX9_readWord_54 Tx ln ps (((7 : Int32).toInt - (0 : Int32).toInt).toNat + 1) w 0 pp else bd1 (fX9_here Tx ln pp) (fun (r_4 : Int32) => bd1 (fX9_in r_4 97 122) (fun (r_6 : Bool) => (if r_6 = true then bd1 (fX9_here Tx ln pp) (fun (r_10 : Int32) => fX9_readWord_4 Tx ln ps fu ((w <<< ((8 : Int32).toInt64 &&& 63)) ||| r_10.toInt64) (x3 + 1) (pp + 1)) else fX9_readWord_54 Tx ln ps (((7 : Int32).toInt - (0 : Int32).toInt).toNat + 1) w 0 pp)))) := rfl

/-- the value of X9_readWord, path by path -/
def fX9_readWord (Tx : Nat → Int32) (ln : Int32) (ps : Int32) : Int32 × Int32 :=
  fX9_readWord_4 Tx ln ps (((7 : Int32).toInt - (0 : Int32).toInt).toNat + 1) 0 0 ps

set_option maxHeartbeats 4000000 in
set_option maxRecDepth 100000 in
/-- X9_readWord -/
theorem mX9_readWord (l : Launch) (D : va_G) (cI cC cS : ClassId) (sz : Nat) (o : Nat) (q1 : Nat) (q2 : Nat) (q3 : Nat) (q4 : Nat) (q5 : Nat) (S : Nat → Int32) (Bg : Nat → Int32) (Pa : Nat → Int32) (Tx : Nat → Int32) (Nu : Nat → Int32) (st : Int32) (ln : Int32) (ps : Int32) (fm : Bool) (rs : Int32) (hL : vp_in ln 81) (hq : vp_in ps 250) : Met l yX9_readWord wsX9_readWord ({ frames := 1, cells := 0, slots := 0, locals := 22 } : Jvm.Room) (va_Pc [.ref o] (wPre D (TY cI cC cS) [(o, .inr (7, [.ref q1, .ref q2, .ref q3, .int st, .ref q4, .int ln, .int ps, .int (bi fm), .int rs, .ref q5])), (q1, .inl (cI, 314, .inl S)), (q2, .inl (cI, 314, .inl Bg)), (q3, .inl (cI, 1256, .inl Pa)), (q4, .inl (cI, 80, .inl Tx)), (q5, .inl (cI, 5, .inl Nu))] sz X0)) (qI D (TY cI cC cS) (fun (r : Int32) (u : Int32 × Int32) => fX9_readWord Tx ln ps = u ∧ r = u.1) (fun u => [(o, .inr (7, [.ref q1, .ref q2, .ref q3, .int st, .ref q4, .int ln, .int u.2, .int (bi fm), .int rs, .ref q5])), (q1, .inl (cI, 314, .inl S)), (q2, .inl (cI, 314, .inl Bg)), (q3, .inl (cI, 1256, .inl Pa)), (q4, .inl (cI, 80, .inl Tx)), (q5, .inl (cI, 5, .inl Nu))]) (va_A [(o, .inr (7, [.ref q1, .ref q2, .ref q3, .int st, .ref q4, .int ln, .int ps, .int (bi fm), .int rs, .ref q5])), (q1, .inl (cI, 314, .inl S)), (q2, .inl (cI, 314, .inl Bg)), (q3, .inl (cI, 1256, .inl Pa)), (q4, .inl (cI, 80, .inl Tx)), (q5, .inl (cI, 5, .inl Nu))] sz)) 0 0 (va_A [(o, .inr (7, [.ref q1, .ref q2, .ref q3, .int st, .ref q4, .int ln, .int ps, .int (bi fm), .int rs, .ref q5])), (q1, .inl (cI, 314, .inl S)), (q2, .inl (cI, 314, .inl Bg)), (q3, .inl (cI, 1256, .inl Pa)), (q4, .inl (cI, 80, .inl Tx)), (q5, .inl (cI, 5, .inl Nu))] sz) := by
  refine mkM (fun Fr => qI D (TY cI cC cS) (fun (r : Int32) (u : Int32 × Int32) => fX9_readWord Tx ln ps = u ∧ r = u.1) (fun u => [(o, .inr (7, [.ref q1, .ref q2, .ref q3, .int st, .ref q4, .int ln, .int u.2, .int (bi fm), .int rs, .ref q5])), (q1, .inl (cI, 314, .inl S)), (q2, .inl (cI, 314, .inl Bg)), (q3, .inl (cI, 1256, .inl Pa)), (q4, .inl (cI, 80, .inl Tx)), (q5, .inl (cI, 5, .inl Nu))]) Fr) (cc := cX9_readWord) (maxL := 5) (ret := (some .int)) (own := RX9) (lv := [(0, .ref o)]) (by decide) rfl rfl (Nat.le_of_ble_eq_true rfl) rfl ?_
  intro p e s m below meth c Fr ls hx hb hr hts hown hml hlk hin hP hK hD hS hA hAe hsz hX hl
  have w_1 := hts (.fieldLink RX9 145 "FieldQuotasModel" "at" "I") (List.mem_of_getElem? (i := 1) rfl)
  have w_2 := sub_r (big := wsX9_readWord) (u_ws RX9 TX9 10) [22, 23, 24, 25, 26, 27, 28, 29, 30, 31] rfl
  refine lv_lconst (v := 0) hx hb dX9_readWord_0 rfl ?_
  refine lv_lstore_n (lv' := [(1, .long 0), (0, .ref o)]) hx hb dX9_readWord_1 rfl hl (by decide) rfl (fun ls hl => ?_)
  refine lv_iconst (v := 0) hx hb dX9_readWord_2 (by decide) ?_
  refine lv_istore_n (lv' := [(3, .int 0), (1, .long 0), (0, .ref o)]) hx hb dX9_readWord_3 rfl hl (by decide) rfl (fun ls hl => ?_)
  have K_4 : ∀ (fu : Nat) (w : Int64) (x3 : Int32) (pp : Int32) (H : Heap) (locs : List Loc) (ls : Array Slot), va_P D vwCl [(o, .inr (7, [.ref q1, .ref q2, .ref q3, .int st, .ref q4, .int ln, .int pp, .int (bi fm), .int rs, .ref q5])), (q1, .inl (cI, 314, .inl S)), (q2, .inl (cI, 314, .inl Bg)), (q3, .inl (cI, 1256, .inl Pa)), (q4, .inl (cI, 80, .inl Tx)), (q5, .inl (cI, 5, .inl Nu))] H → va_D Fr [(o, .inr (7, [.ref q1, .ref q2, .ref q3, .int st, .ref q4, .int ln, .int pp, .int (bi fm), .int rs, .ref q5])), (q1, .inl (cI, 314, .inl S)), (q2, .inl (cI, 314, .inl Bg)), (q3, .inl (cI, 1256, .inl Pa)), (q4, .inl (cI, 80, .inl Tx)), (q5, .inl (cI, 5, .inl Nu))] → va_S Fr s.heap H locs → lv_has ls 5 [(0, .ref o), (1, .long w), (3, .int x3)] → (rwI pp x3) → ((7 : Int32).toInt - x3.toInt).toNat < fu → fX9_readWord Tx ln ps = fX9_readWord_4 Tx ln ps fu w x3 pp → W p l e (headSpec wsX9_readWord ({ frames := 1, cells := 0, slots := 0, locals := 22 } : Jvm.Room)).room s m ([.ref o] : List Value).toArray below meth c H locs 0 0 (MQ below (qI D (TY cI cC cS) (fun (r : Int32) (u : Int32 × Int32) => fX9_readWord Tx ln ps = u ∧ r = u.1) (fun u => [(o, .inr (7, [.ref q1, .ref q2, .ref q3, .int st, .ref q4, .int ln, .int u.2, .int (bi fm), .int rs, .ref q5])), (q1, .inl (cI, 314, .inl S)), (q2, .inl (cI, 314, .inl Bg)), (q3, .inl (cI, 1256, .inl Pa)), (q4, .inl (cI, 80, .inl Tx)), (q5, .inl (cI, 5, .inl Nu))]) Fr) ([.ref o] : List Value).toArray s 0 0 Fr) (F0 m 4 ls []) := by
    intro fu
    induction fu with
    | zero => intros; exact absurd (by assumption) (Nat.not_lt_zero _)
    | succ fu ih_4 =>
      intro w x3 pp H locs ls hP hD hS hl hi hm_4 E_4
      refine lv_iload_n hx hb dX9_readWord_4 rfl (lv_at hl 2 rfl) ?_
      refine lv_bipush (v := 7) hx hb dX9_readWord_5 (by decide) ?_
      refine lv_icmp_ge (tgt := 51) hx hb dX9_readWord_7 (by decide) (fun c7 => ?_) (fun c7 => ?_)
      · refine lv_iconst (v := 0) hx hb dX9_readWord_51 (by decide) ?_
        refine lv_istore (lv' := [(4, .int 0), (0, .ref o), (1, .long w), (3, .int x3)]) hx hb dX9_readWord_52 hl (by decide) rfl (fun ls hl => ?_)
        have K_54 : ∀ (fu : Nat) (w : Int64) (x4 : Int32) (pp : Int32) (H : Heap) (locs : List Loc) (ls : Array Slot), va_P D vwCl [(o, .inr (7, [.ref q1, .ref q2, .ref q3, .int st, .ref q4, .int ln, .int pp, .int (bi fm), .int rs, .ref q5])), (q1, .inl (cI, 314, .inl S)), (q2, .inl (cI, 314, .inl Bg)), (q3, .inl (cI, 1256, .inl Pa)), (q4, .inl (cI, 80, .inl Tx)), (q5, .inl (cI, 5, .inl Nu))] H → va_D Fr [(o, .inr (7, [.ref q1, .ref q2, .ref q3, .int st, .ref q4, .int ln, .int pp, .int (bi fm), .int rs, .ref q5])), (q1, .inl (cI, 314, .inl S)), (q2, .inl (cI, 314, .inl Bg)), (q3, .inl (cI, 1256, .inl Pa)), (q4, .inl (cI, 80, .inl Tx)), (q5, .inl (cI, 5, .inl Nu))] → va_S Fr s.heap H locs → lv_has ls 5 [(0, .ref o), (1, .long w), (4, .int x4)] → ((7 : Int32).toInt - x4.toInt).toNat < fu → fX9_readWord Tx ln ps = fX9_readWord_54 Tx ln ps fu w x4 pp → W p l e (headSpec wsX9_readWord ({ frames := 1, cells := 0, slots := 0, locals := 22 } : Jvm.Room)).room s m ([.ref o] : List Value).toArray below meth c H locs 0 0 (MQ below (qI D (TY cI cC cS) (fun (r : Int32) (u : Int32 × Int32) => fX9_readWord Tx ln ps = u ∧ r = u.1) (fun u => [(o, .inr (7, [.ref q1, .ref q2, .ref q3, .int st, .ref q4, .int ln, .int u.2, .int (bi fm), .int rs, .ref q5])), (q1, .inl (cI, 314, .inl S)), (q2, .inl (cI, 314, .inl Bg)), (q3, .inl (cI, 1256, .inl Pa)), (q4, .inl (cI, 80, .inl Tx)), (q5, .inl (cI, 5, .inl Nu))]) Fr) ([.ref o] : List Value).toArray s 0 0 Fr) (F0 m 54 ls []) := by
          intro fu
          induction fu with
          | zero => intros; exact absurd (by assumption) (Nat.not_lt_zero _)
          | succ fu ih_54 =>
            intro w x4 pp H locs ls hP hD hS hl  hm_54 E_54
            refine lv_iload hx hb dX9_readWord_54 (lv_at hl 2 rfl) ?_
            refine lv_bipush (v := 7) hx hb dX9_readWord_56 (by decide) ?_
            refine lv_icmp_ge (tgt := 80) hx hb dX9_readWord_58 (by decide) (fun c58 => ?_) (fun c58 => ?_)
            · refine lv_iconst (v := (-1)) hx hb dX9_readWord_80 (by decide) ?_
              exact endI hx hb hr hlk hP hK hD hS dX9_readWord_81 ((-1), pp) rfl ⟨(E_54).trans ((fX9_readWord_54_s Tx ln ps fu w x4 pp).trans ((if_pos c58).trans rfl)), rfl⟩
            · refine lv_iload hx hb dX9_readWord_61 (lv_at hl 2 rfl) ?_
              refine callSl (As := [.int x4]) (rest := []) (mX9_wordOf l D cI cC cS _ x4) ⟨hx, hb, hml, hown, hts⟩ (va_cwS 1 hts gX9_readWord_X9_wordOf rfl rfl rfl (by decide +kernel) ⟨Nat.le_of_ble_eq_true rfl, Nat.le_of_ble_eq_true rfl⟩) hP hK hD hS hA hl rfl rfl (Nat.le_of_ble_eq_true rfl) dX9_readWord_63 ⟨Nat.zero_le _, Nat.zero_le _⟩ (fun u_ H locs hk2 hP hS => ?_)
              obtain ⟨r_2, e_r_2⟩ : ∃ z, z = u_ := ⟨_, rfl⟩
              subst e_r_2
              refine W.eq (g2 := F0 m 66 ls [.long r_2]) rfl ?_
              refine lv_lload_n hx hb dX9_readWord_66 rfl (lv_at hl 1 rfl) ?_
              refine W.lcmp hx hb dX9_readWord_67 ?_
              refine lv_if_ne (tgt := 74) hx hb dX9_readWord_68 (by decide) (fun c68 => ?_) (fun c68 => ?_)
              · refine lv_iinc (v := x4 + 1) (lv' := [(4, .int (x4 + 1)), (0, .ref o), (1, .long w)]) hx hb dX9_readWord_74 hl (k := 2) rfl (by rfl) (by decide) rfl (fun ls hl => ?_)
                refine lv_goto (tgt := 54) hx hb dX9_readWord_77 (by decide) ?_
                exact ih_54 w (x4 + 1) pp _ _ ls hP hD hS (lv_sub hl [1, 2, 0] rfl) (Nat.lt_of_lt_of_le (lp_dec c58) (Nat.le_of_lt_succ hm_54)) ((E_54).trans ((fX9_readWord_54_s Tx ln ps fu w x4 pp).trans ((if_neg c58).trans ((bd1_e hk2).trans ((if_neg c68).trans rfl)))))
              · refine lv_iload hx hb dX9_readWord_71 (lv_at hl 2 rfl) ?_
                exact endI hx hb hr hlk hP hK hD hS dX9_readWord_73 (x4, pp) rfl ⟨(E_54).trans ((fX9_readWord_54_s Tx ln ps fu w x4 pp).trans ((if_neg c58).trans ((bd1_e hk2).trans ((if_pos c68).trans rfl)))), rfl⟩
        exact K_54 (((7 : Int32).toInt - (0 : Int32).toInt).toNat + 1) w 0 pp _ _ ls hP hD hS (lv_sub hl [1, 2, 0] rfl) (Nat.lt_succ_self _) ((E_4).trans ((fX9_readWord_4_s Tx ln ps fu w x3 pp).trans ((if_pos c7).trans rfl)))
      · refine lv_aload_n hx hb dX9_readWord_10 rfl (lv_at hl 0 rfl) ?_
        refine callVi (As := []) (rest := []) (mX9_here l D cI cC cS _ o q1 q2 q3 q4 q5 S Bg Pa Tx Nu st ln pp fm rs hL (rw_nn hi)) ⟨hx, hb, hml, hown, hts⟩ (cwV 0 hts gX9_readWord_X9_here rfl rfl rfl (by decide +kernel) ⟨Nat.le_of_ble_eq_true rfl, Nat.le_of_ble_eq_true rfl⟩) X0_blind (fun _ _ _ => trivial) hP hK hD hS hA hl [0, 1, 2, 3, 4, 5] rfl rfl 0 7 rfl rfl rfl rfl rfl (Nat.le_of_ble_eq_true rfl) dX9_readWord_11 ⟨Nat.zero_le _, Nat.zero_le _⟩ (fun _ => rfl) (fun u_ H locs hk4 hP hD hS => ?_)
        obtain ⟨r_4, e_r_4⟩ : ∃ z, z = u_ := ⟨_, rfl⟩
        subst e_r_4
        have hP : va_P D vwCl [(o, .inr (7, [.ref q1, .ref q2, .ref q3, .int st, .ref q4, .int ln, .int pp, .int (bi fm), .int rs, .ref q5])), (q1, .inl (cI, 314, .inl S)), (q2, .inl (cI, 314, .inl Bg)), (q3, .inl (cI, 1256, .inl Pa)), (q4, .inl (cI, 80, .inl Tx)), (q5, .inl (cI, 5, .inl Nu))] H := hP
        have hD : va_D Fr [(o, .inr (7, [.ref q1, .ref q2, .ref q3, .int st, .ref q4, .int ln, .int pp, .int (bi fm), .int rs, .ref q5])), (q1, .inl (cI, 314, .inl S)), (q2, .inl (cI, 314, .inl Bg)), (q3, .inl (cI, 1256, .inl Pa)), (q4, .inl (cI, 80, .inl Tx)), (q5, .inl (cI, 5, .inl Nu))] := hD
        refine W.eq (g2 := F0 m 14 ls [.int r_4]) rfl ?_
        refine lv_bipush (v := 97) hx hb dX9_readWord_14 (by decide) ?_
        refine lv_bipush (v := 122) hx hb dX9_readWord_16 (by decide) ?_
        refine callSi (As := [.int r_4, .int 97, .int 122]) (rest := []) (mX9_in l D cI cC cS _ r_4 97 122) ⟨hx, hb, hml, hown, hts⟩ (va_cwS 3 hts gX9_readWord_X9_in rfl rfl rfl (by decide +kernel) ⟨Nat.le_of_ble_eq_true rfl, Nat.le_of_ble_eq_true rfl⟩) hP hK hD hS hA hl rfl rfl (Nat.le_of_ble_eq_true rfl) dX9_readWord_18 ⟨Nat.zero_le _, Nat.zero_le _⟩ (fun u_ H locs hk6 hP hS => ?_)
        obtain ⟨r_6, e_r_6⟩ : ∃ z, z = u_ := ⟨_, rfl⟩
        subst e_r_6
        refine W.eq (g2 := F0 m 21 ls [.int (bi r_6)]) rfl ?_
        refine lv_if_eq (tgt := 51) hx hb dX9_readWord_21 (by decide) (fun c21 => ?_) (fun c21 => ?_)
        · refine lv_iconst (v := 0) hx hb dX9_readWord_51 (by decide) ?_
          refine lv_istore (lv' := [(4, .int 0), (0, .ref o), (1, .long w), (3, .int x3)]) hx hb dX9_readWord_52 hl (by decide) rfl (fun ls hl => ?_)
          have K_54 : ∀ (fu : Nat) (w : Int64) (x4 : Int32) (pp : Int32) (H : Heap) (locs : List Loc) (ls : Array Slot), va_P D vwCl [(o, .inr (7, [.ref q1, .ref q2, .ref q3, .int st, .ref q4, .int ln, .int pp, .int (bi fm), .int rs, .ref q5])), (q1, .inl (cI, 314, .inl S)), (q2, .inl (cI, 314, .inl Bg)), (q3, .inl (cI, 1256, .inl Pa)), (q4, .inl (cI, 80, .inl Tx)), (q5, .inl (cI, 5, .inl Nu))] H → va_D Fr [(o, .inr (7, [.ref q1, .ref q2, .ref q3, .int st, .ref q4, .int ln, .int pp, .int (bi fm), .int rs, .ref q5])), (q1, .inl (cI, 314, .inl S)), (q2, .inl (cI, 314, .inl Bg)), (q3, .inl (cI, 1256, .inl Pa)), (q4, .inl (cI, 80, .inl Tx)), (q5, .inl (cI, 5, .inl Nu))] → va_S Fr s.heap H locs → lv_has ls 5 [(0, .ref o), (1, .long w), (4, .int x4)] → ((7 : Int32).toInt - x4.toInt).toNat < fu → fX9_readWord Tx ln ps = fX9_readWord_54 Tx ln ps fu w x4 pp → W p l e (headSpec wsX9_readWord ({ frames := 1, cells := 0, slots := 0, locals := 22 } : Jvm.Room)).room s m ([.ref o] : List Value).toArray below meth c H locs 0 0 (MQ below (qI D (TY cI cC cS) (fun (r : Int32) (u : Int32 × Int32) => fX9_readWord Tx ln ps = u ∧ r = u.1) (fun u => [(o, .inr (7, [.ref q1, .ref q2, .ref q3, .int st, .ref q4, .int ln, .int u.2, .int (bi fm), .int rs, .ref q5])), (q1, .inl (cI, 314, .inl S)), (q2, .inl (cI, 314, .inl Bg)), (q3, .inl (cI, 1256, .inl Pa)), (q4, .inl (cI, 80, .inl Tx)), (q5, .inl (cI, 5, .inl Nu))]) Fr) ([.ref o] : List Value).toArray s 0 0 Fr) (F0 m 54 ls []) := by
            intro fu
            induction fu with
            | zero => intros; exact absurd (by assumption) (Nat.not_lt_zero _)
            | succ fu ih_54 =>
              intro w x4 pp H locs ls hP hD hS hl  hm_54 E_54
              refine lv_iload hx hb dX9_readWord_54 (lv_at hl 2 rfl) ?_
              refine lv_bipush (v := 7) hx hb dX9_readWord_56 (by decide) ?_
              refine lv_icmp_ge (tgt := 80) hx hb dX9_readWord_58 (by decide) (fun c58 => ?_) (fun c58 => ?_)
              · refine lv_iconst (v := (-1)) hx hb dX9_readWord_80 (by decide) ?_
                exact endI hx hb hr hlk hP hK hD hS dX9_readWord_81 ((-1), pp) rfl ⟨(E_54).trans ((fX9_readWord_54_s Tx ln ps fu w x4 pp).trans ((if_pos c58).trans rfl)), rfl⟩
              · refine lv_iload hx hb dX9_readWord_61 (lv_at hl 2 rfl) ?_
                refine callSl (As := [.int x4]) (rest := []) (mX9_wordOf l D cI cC cS _ x4) ⟨hx, hb, hml, hown, hts⟩ (va_cwS 1 hts gX9_readWord_X9_wordOf rfl rfl rfl (by decide +kernel) ⟨Nat.le_of_ble_eq_true rfl, Nat.le_of_ble_eq_true rfl⟩) hP hK hD hS hA hl rfl rfl (Nat.le_of_ble_eq_true rfl) dX9_readWord_63 ⟨Nat.zero_le _, Nat.zero_le _⟩ (fun u_ H locs hk8 hP hS => ?_)
                obtain ⟨r_8, e_r_8⟩ : ∃ z, z = u_ := ⟨_, rfl⟩
                subst e_r_8
                refine W.eq (g2 := F0 m 66 ls [.long r_8]) rfl ?_
                refine lv_lload_n hx hb dX9_readWord_66 rfl (lv_at hl 1 rfl) ?_
                refine W.lcmp hx hb dX9_readWord_67 ?_
                refine lv_if_ne (tgt := 74) hx hb dX9_readWord_68 (by decide) (fun c68 => ?_) (fun c68 => ?_)
                · refine lv_iinc (v := x4 + 1) (lv' := [(4, .int (x4 + 1)), (0, .ref o), (1, .long w)]) hx hb dX9_readWord_74 hl (k := 2) rfl (by rfl) (by decide) rfl (fun ls hl => ?_)
                  refine lv_goto (tgt := 54) hx hb dX9_readWord_77 (by decide) ?_
                  exact ih_54 w (x4 + 1) pp _ _ ls hP hD hS (lv_sub hl [1, 2, 0] rfl) (Nat.lt_of_lt_of_le (lp_dec c58) (Nat.le_of_lt_succ hm_54)) ((E_54).trans ((fX9_readWord_54_s Tx ln ps fu w x4 pp).trans ((if_neg c58).trans ((bd1_e hk8).trans ((if_neg c68).trans rfl)))))
                · refine lv_iload hx hb dX9_readWord_71 (lv_at hl 2 rfl) ?_
                  exact endI hx hb hr hlk hP hK hD hS dX9_readWord_73 (x4, pp) rfl ⟨(E_54).trans ((fX9_readWord_54_s Tx ln ps fu w x4 pp).trans ((if_neg c58).trans ((bd1_e hk8).trans ((if_pos c68).trans rfl)))), rfl⟩
          exact K_54 (((7 : Int32).toInt - (0 : Int32).toInt).toNat + 1) w 0 pp _ _ ls hP hD hS (lv_sub hl [1, 2, 0] rfl) (Nat.lt_succ_self _) ((E_4).trans ((fX9_readWord_4_s Tx ln ps fu w x3 pp).trans ((if_neg c7).trans ((bd1_e hk4).trans ((bd1_e hk6).trans ((if_neg (bi_z c21)).trans rfl))))))
        · refine lv_lload_n hx hb dX9_readWord_24 rfl (lv_at hl 1 rfl) ?_
          refine lv_bipush (v := 8) hx hb dX9_readWord_25 (by decide) ?_
          refine lv_lshl (v := w <<< ((8 : Int32).toInt64 &&& 63)) hx hb dX9_readWord_27 rfl ?_
          refine lv_aload_n hx hb dX9_readWord_28 rfl (lv_at hl 0 rfl) ?_
          refine callVi (As := []) (rest := [.long (w <<< ((8 : Int32).toInt64 &&& 63))]) (mX9_here l D cI cC cS _ o q1 q2 q3 q4 q5 S Bg Pa Tx Nu st ln pp fm rs hL (rw_nn hi)) ⟨hx, hb, hml, hown, hts⟩ (cwV 0 hts gX9_readWord_X9_here rfl rfl rfl (by decide +kernel) ⟨Nat.le_of_ble_eq_true rfl, Nat.le_of_ble_eq_true rfl⟩) X0_blind (fun _ _ _ => trivial) hP hK hD hS hA hl [0, 1, 2, 3, 4, 5] rfl rfl 0 7 rfl rfl rfl rfl rfl (Nat.le_of_ble_eq_true rfl) dX9_readWord_29 ⟨Nat.zero_le _, Nat.zero_le _⟩ (fun _ => rfl) (fun u_ H locs hk10 hP hD hS => ?_)
          obtain ⟨r_10, e_r_10⟩ : ∃ z, z = u_ := ⟨_, rfl⟩
          subst e_r_10
          have hP : va_P D vwCl [(o, .inr (7, [.ref q1, .ref q2, .ref q3, .int st, .ref q4, .int ln, .int pp, .int (bi fm), .int rs, .ref q5])), (q1, .inl (cI, 314, .inl S)), (q2, .inl (cI, 314, .inl Bg)), (q3, .inl (cI, 1256, .inl Pa)), (q4, .inl (cI, 80, .inl Tx)), (q5, .inl (cI, 5, .inl Nu))] H := hP
          have hD : va_D Fr [(o, .inr (7, [.ref q1, .ref q2, .ref q3, .int st, .ref q4, .int ln, .int pp, .int (bi fm), .int rs, .ref q5])), (q1, .inl (cI, 314, .inl S)), (q2, .inl (cI, 314, .inl Bg)), (q3, .inl (cI, 1256, .inl Pa)), (q4, .inl (cI, 80, .inl Tx)), (q5, .inl (cI, 5, .inl Nu))] := hD
          refine W.eq (g2 := F0 m 32 ls [.int r_10, .long (w <<< ((8 : Int32).toInt64 &&& 63))]) rfl ?_
          refine lv_i2l (v := r_10.toInt64) hx hb dX9_readWord_32 rfl ?_
          refine lv_lor hx hb dX9_readWord_33 ?_
          refine lv_lstore_n (lv' := [(1, .long ((w <<< ((8 : Int32).toInt64 &&& 63)) ||| r_10.toInt64)), (0, .ref o), (3, .int x3)]) hx hb dX9_readWord_34 rfl hl (by decide) rfl (fun ls hl => ?_)
          refine lv_iinc (v := x3 + 1) (lv' := [(3, .int (x3 + 1)), (1, .long ((w <<< ((8 : Int32).toInt64 &&& 63)) ||| r_10.toInt64)), (0, .ref o)]) hx hb dX9_readWord_35 hl (k := 2) rfl (by rfl) (by decide) rfl (fun ls hl => ?_)
          refine lv_aload_n hx hb dX9_readWord_38 rfl (lv_at hl 2 rfl) ?_
          refine lv_dup hx hb dX9_readWord_39 rfl ?_
          refine va_get (D := D) (ci := 7) (C := RX9) (T := TX9) (N := 10) hx hb hts w_2 hown hK hP 0 rfl rfl 6 (by decide) w_1 (fun _ h9 => h9) rfl dX9_readWord_40 ?_
          refine lv_iconst (v := 1) hx hb dX9_readWord_43 (by decide) ?_
          refine lv_iadd hx hb dX9_readWord_44 ?_
          refine va_put (D := D) (ci := 7) (v := .int (pp + 1)) (ty := .int) (C := RX9) (T := TX9) (N := 10) hx hb hts w_2 tyX9 tyX9_ok nmX9 hown hK hP hD hS 0 rfl rfl 6 (by decide) w_1 (fun _ h9 => h9) rfl (by decide +kernel) rfl rfl (Nat.le_of_ble_eq_true rfl) dX9_readWord_45 (fun H locs hP hD hS => ?_)
          have hP : va_P D vwCl [(o, .inr (7, [.ref q1, .ref q2, .ref q3, .int st, .ref q4, .int ln, .int (pp + 1), .int (bi fm), .int rs, .ref q5])), (q1, .inl (cI, 314, .inl S)), (q2, .inl (cI, 314, .inl Bg)), (q3, .inl (cI, 1256, .inl Pa)), (q4, .inl (cI, 80, .inl Tx)), (q5, .inl (cI, 5, .inl Nu))] H := hP
          have hD : va_D Fr [(o, .inr (7, [.ref q1, .ref q2, .ref q3, .int st, .ref q4, .int ln, .int (pp + 1), .int (bi fm), .int rs, .ref q5])), (q1, .inl (cI, 314, .inl S)), (q2, .inl (cI, 314, .inl Bg)), (q3, .inl (cI, 1256, .inl Pa)), (q4, .inl (cI, 80, .inl Tx)), (q5, .inl (cI, 5, .inl Nu))] := hD
          refine lv_goto (tgt := 4) hx hb dX9_readWord_48 (by decide) ?_
          exact ih_4 ((w <<< ((8 : Int32).toInt64 &&& 63)) ||| r_10.toInt64) (x3 + 1) (pp + 1) _ _ ls hP hD hS (lv_sub hl [2, 1, 0] rfl) (rw_1 hi c7) (Nat.lt_of_lt_of_le (lp_dec c7) (Nat.le_of_lt_succ hm_4)) ((E_4).trans ((fX9_readWord_4_s Tx ln ps fu w x3 pp).trans ((if_neg c7).trans ((bd1_e hk4).trans ((bd1_e hk6).trans ((if_pos (bi_o c21)).trans ((bd1_e hk10).trans rfl)))))))
  exact K_4 (((7 : Int32).toInt - (0 : Int32).toInt).toNat + 1) 0 0 ps _ _ ls hP hD hS (lv_sub hl [2, 1, 0] rfl) (rw_0 hq) (Nat.lt_succ_self _) rfl

