/-- the loop of X9_does at 7 -/
def fX9_does_7 (S : Nat → Int32) (Tx : Nat → Int32) (Nu : Nat → Int32) (ln : Int32) (fm : Bool) (rs : Int32) : Nat → Int32 → (Nat → Int32) → (Nat → Int32) → Int32 → Bool → Int32 → Int32 × (Nat → Int32) × (Nat → Int32) × Int32 × Bool × Int32
  | 0, _, _, _, _, _, _ => default
  | fu + 1, x1, Z, Q, pp, f, rr =>
    (if ln ≤ pp then ((-1) - x1, Z, Q, pp, f, rr) else bd5 (fX9_command Z Tx Q ln pp) (fun (r_2 : Int32) (u_3 : Nat → Int32) (u_4 : Nat → Int32) (u_5 : Int32) (u_6 : Bool) => (if u_6 = true then (if r_2 = (-1) then (pp, u_3, u_4, u_5, u_6, 2) else (if (0 : Int32) ≤ r_2 then fX9_does_7 S Tx Nu ln fm rs fu (x1 + 1) u_3 u_4 u_5 u_6 0 else (pp, u_3, u_4, u_5, u_6, 3))) else (pp, u_3, u_4, u_5, u_6, 1))))
theorem fX9_does_7_s (S : Nat → Int32) (Tx : Nat → Int32) (Nu : Nat → Int32) (ln : Int32) (fm : Bool) (rs : Int32) (fu : Nat) (x1 : Int32) (Z : Nat → Int32) (Q : Nat → Int32) (pp : Int32) (f : Bool) (rr : Int32) : fX9_does_7 S Tx Nu ln fm rs (fu + 1) x1 Z Q pp f rr =
    (if ln ≤ pp then ((-1) - x1, Z, Q, pp, f, rr) else bd5 (fX9_command Z Tx Q ln pp) (fun (r_2 : Int32) (u_3 : Nat → Int32) (u_4 : Nat → Int32) (u_5 : Int32) (u_6 : Bool) => (if u_6 = true then (if r_2 = (-1) then (pp, u_3, u_4, u_5, u_6, 2) else (if (0 : Int32) ≤ r_2 then fX9_does_7 S Tx Nu ln fm rs fu (x1 + 1) u_3 u_4 u_5 u_6 0 else (pp, u_3, u_4, u_5, u_6, 3))) else (pp, u_3, u_4, u_5, u_6, 1)))) := rfl

/-- the value of X9_does, path by path -/
def fX9_does (S : Nat → Int32) (Tx : Nat → Int32) (Nu : Nat → Int32) (ln : Int32) (fm : Bool) (rs : Int32) : Int32 × (Nat → Int32) × (Nat → Int32) × Int32 × Bool × Int32 :=
  fX9_does_7 S Tx Nu ln fm rs ((ln.toInt - (0 : Int32).toInt).toNat + 1) 0 S Nu 0 fm rs

set_option maxHeartbeats 4000000 in
set_option maxRecDepth 100000 in
/-- X9_does -/
theorem mX9_does (l : Launch) (D : va_G) (cI cC cS : ClassId) (sz : Nat) (o : Nat) (q1 : Nat) (q2 : Nat) (q3 : Nat) (q4 : Nat) (q5 : Nat) (S : Nat → Int32) (Bg : Nat → Int32) (Pa : Nat → Int32) (Tx : Nat → Int32) (Nu : Nat → Int32) (st : Int32) (ln : Int32) (ps : Int32) (fm : Bool) (rs : Int32) (ho0 : okS S) (hL : vp_in ln 81) : Met l yX9_does wsX9_does ({ frames := 7, cells := 0, slots := 0, locals := 155 } : Jvm.Room) (va_Pc [.ref o] (wPre D (TY cI cC cS) [(o, .inr (7, [.ref q1, .ref q2, .ref q3, .int st, .ref q4, .int ln, .int ps, .int (bi fm), .int rs, .ref q5])), (q1, .inl (cI, 314, .inl S)), (q2, .inl (cI, 314, .inl Bg)), (q3, .inl (cI, 1256, .inl Pa)), (q4, .inl (cI, 80, .inl Tx)), (q5, .inl (cI, 5, .inl Nu))] sz X0)) (qI D (TY cI cC cS) (fun (r : Int32) (u : Int32 × (Nat → Int32) × (Nat → Int32) × Int32 × Bool × Int32) => fX9_does S Tx Nu ln fm rs = u ∧ r = u.1) (fun u => [(o, .inr (7, [.ref q1, .ref q2, .ref q3, .int st, .ref q4, .int ln, .int u.2.2.2.1, .int (bi u.2.2.2.2.1), .int u.2.2.2.2.2, .ref q5])), (q1, .inl (cI, 314, .inl u.2.1)), (q2, .inl (cI, 314, .inl Bg)), (q3, .inl (cI, 1256, .inl Pa)), (q4, .inl (cI, 80, .inl Tx)), (q5, .inl (cI, 5, .inl u.2.2.1))]) (va_A [(o, .inr (7, [.ref q1, .ref q2, .ref q3, .int st, .ref q4, .int ln, .int ps, .int (bi fm), .int rs, .ref q5])), (q1, .inl (cI, 314, .inl S)), (q2, .inl (cI, 314, .inl Bg)), (q3, .inl (cI, 1256, .inl Pa)), (q4, .inl (cI, 80, .inl Tx)), (q5, .inl (cI, 5, .inl Nu))] sz)) 0 0 (va_A [(o, .inr (7, [.ref q1, .ref q2, .ref q3, .int st, .ref q4, .int ln, .int ps, .int (bi fm), .int rs, .ref q5])), (q1, .inl (cI, 314, .inl S)), (q2, .inl (cI, 314, .inl Bg)), (q3, .inl (cI, 1256, .inl Pa)), (q4, .inl (cI, 80, .inl Tx)), (q5, .inl (cI, 5, .inl Nu))] sz) := by
  refine mkM (fun Fr => qI D (TY cI cC cS) (fun (r : Int32) (u : Int32 × (Nat → Int32) × (Nat → Int32) × Int32 × Bool × Int32) => fX9_does S Tx Nu ln fm rs = u ∧ r = u.1) (fun u => [(o, .inr (7, [.ref q1, .ref q2, .ref q3, .int st, .ref q4, .int ln, .int u.2.2.2.1, .int (bi u.2.2.2.2.1), .int u.2.2.2.2.2, .ref q5])), (q1, .inl (cI, 314, .inl u.2.1)), (q2, .inl (cI, 314, .inl Bg)), (q3, .inl (cI, 1256, .inl Pa)), (q4, .inl (cI, 80, .inl Tx)), (q5, .inl (cI, 5, .inl u.2.2.1))]) Fr) (cc := cX9_does) (maxL := 4) (ret := (some .int)) (own := RX9) (lv := [(0, .ref o)]) (by decide) rfl rfl (Nat.le_of_ble_eq_true rfl) rfl ?_
  intro p e s m below meth c Fr ls hx hb hr hts hown hml hlk hin hP hK hD hS hA hAe hsz hX hl
  have w_1 := hts (.fieldLink RX9 145 "FieldQuotasModel" "at" "I") (List.mem_of_getElem? (i := 1) rfl)
  have w_2 := sub_r (big := wsX9_does) (u_ws RX9 TX9 10) [128, 129, 130, 131, 132, 133, 134, 135, 136, 137] rfl
  have w_3 := hts (.fieldLink RX9 133 "FieldQuotasModel" "length" "I") (List.mem_of_getElem? (i := 2) rfl)
  have w_4 := hts (.fieldLink RX9 148 "FieldQuotasModel" "isForm" "Z") (List.mem_of_getElem? (i := 3) rfl)
  have w_5 := hts (.fieldLink RX9 189 "FieldQuotasModel" "reason" "I") (List.mem_of_getElem? (i := 4) rfl)
  refine lv_aload_n hx hb dX9_does_0 rfl (lv_at hl 0 rfl) ?_
  refine lv_iconst (v := 0) hx hb dX9_does_1 (by decide) ?_
  refine va_put (D := D) (ci := 7) (v := .int 0) (ty := .int) (C := RX9) (T := TX9) (N := 10) hx hb hts w_2 tyX9 tyX9_ok nmX9 hown hK hP hD hS 0 rfl rfl 6 (by decide) w_1 (fun _ h9 => h9) rfl (by decide +kernel) rfl rfl (Nat.le_of_ble_eq_true rfl) dX9_does_2 (fun H locs hP hD hS => ?_)
  have hP : va_P D vwCl [(o, .inr (7, [.ref q1, .ref q2, .ref q3, .int st, .ref q4, .int ln, .int 0, .int (bi fm), .int rs, .ref q5])), (q1, .inl (cI, 314, .inl S)), (q2, .inl (cI, 314, .inl Bg)), (q3, .inl (cI, 1256, .inl Pa)), (q4, .inl (cI, 80, .inl Tx)), (q5, .inl (cI, 5, .inl Nu))] H := hP
  have hD : va_D Fr [(o, .inr (7, [.ref q1, .ref q2, .ref q3, .int st, .ref q4, .int ln, .int 0, .int (bi fm), .int rs, .ref q5])), (q1, .inl (cI, 314, .inl S)), (q2, .inl (cI, 314, .inl Bg)), (q3, .inl (cI, 1256, .inl Pa)), (q4, .inl (cI, 80, .inl Tx)), (q5, .inl (cI, 5, .inl Nu))] := hD
  refine lv_iconst (v := 0) hx hb dX9_does_5 (by decide) ?_
  refine lv_istore_n (lv' := [(1, .int 0), (0, .ref o)]) hx hb dX9_does_6 rfl hl (by decide) rfl (fun ls hl => ?_)
  have K_7 : ∀ (fu : Nat) (x1 : Int32) (Z : Nat → Int32) (Q : Nat → Int32) (pp : Int32) (f : Bool) (rr : Int32) (H : Heap) (locs : List Loc) (ls : Array Slot), va_P D vwCl [(o, .inr (7, [.ref q1, .ref q2, .ref q3, .int st, .ref q4, .int ln, .int pp, .int (bi f), .int rr, .ref q5])), (q1, .inl (cI, 314, .inl Z)), (q2, .inl (cI, 314, .inl Bg)), (q3, .inl (cI, 1256, .inl Pa)), (q4, .inl (cI, 80, .inl Tx)), (q5, .inl (cI, 5, .inl Q))] H → va_D Fr [(o, .inr (7, [.ref q1, .ref q2, .ref q3, .int st, .ref q4, .int ln, .int pp, .int (bi f), .int rr, .ref q5])), (q1, .inl (cI, 314, .inl Z)), (q2, .inl (cI, 314, .inl Bg)), (q3, .inl (cI, 1256, .inl Pa)), (q4, .inl (cI, 80, .inl Tx)), (q5, .inl (cI, 5, .inl Q))] → va_S Fr s.heap H locs → lv_has ls 4 [(0, .ref o), (1, .int x1)] → (okS Z) → (¬ pp < 0) → (ln.toInt - pp.toInt).toNat < fu → fX9_does S Tx Nu ln fm rs = fX9_does_7 S Tx Nu ln fm rs fu x1 Z Q pp f rr → W p l e (headSpec wsX9_does ({ frames := 7, cells := 0, slots := 0, locals := 155 } : Jvm.Room)).room s m ([.ref o] : List Value).toArray below meth c H locs 0 0 (MQ below (qI D (TY cI cC cS) (fun (r : Int32) (u : Int32 × (Nat → Int32) × (Nat → Int32) × Int32 × Bool × Int32) => fX9_does S Tx Nu ln fm rs = u ∧ r = u.1) (fun u => [(o, .inr (7, [.ref q1, .ref q2, .ref q3, .int st, .ref q4, .int ln, .int u.2.2.2.1, .int (bi u.2.2.2.2.1), .int u.2.2.2.2.2, .ref q5])), (q1, .inl (cI, 314, .inl u.2.1)), (q2, .inl (cI, 314, .inl Bg)), (q3, .inl (cI, 1256, .inl Pa)), (q4, .inl (cI, 80, .inl Tx)), (q5, .inl (cI, 5, .inl u.2.2.1))]) Fr) ([.ref o] : List Value).toArray s 0 0 Fr) (F0 m 7 ls []) := by
    intro fu
    induction fu with
    | zero => intros; exact absurd (by assumption) (Nat.not_lt_zero _)
    | succ fu ih_7 =>
      intro x1 Z Q pp f rr H locs ls hP hD hS hl ho h0 hm_7 E_7
      refine lv_aload_n hx hb dX9_does_7 rfl (lv_at hl 0 rfl) ?_
      refine va_get (D := D) (ci := 7) (C := RX9) (T := TX9) (N := 10) hx hb hts w_2 hown hK hP 0 rfl rfl 6 (by decide) w_1 (fun _ h9 => h9) rfl dX9_does_8 ?_
      refine lv_aload_n hx hb dX9_does_11 rfl (lv_at hl 0 rfl) ?_
      refine va_get (D := D) (ci := 7) (C := RX9) (T := TX9) (N := 10) hx hb hts w_2 hown hK hP 0 rfl rfl 5 (by decide) w_3 (fun _ h9 => h9) rfl dX9_does_12 ?_
      refine lv_icmp_ge (tgt := 76) hx hb dX9_does_15 (by decide) (fun c15 => ?_) (fun c15 => ?_)
      · refine lv_iconst (v := (-1)) hx hb dX9_does_76 (by decide) ?_
        refine lv_iload_n hx hb dX9_does_77 rfl (lv_at hl 1 rfl) ?_
        refine lv_isub hx hb dX9_does_78 ?_
        exact endI hx hb hr hlk hP hK hD hS dX9_does_79 ((-1) - x1, Z, Q, pp, f, rr) rfl ⟨(E_7).trans ((fX9_does_7_s S Tx Nu ln fm rs fu x1 Z Q pp f rr).trans ((if_pos c15).trans rfl)), rfl⟩
      · refine lv_aload_n hx hb dX9_does_18 rfl (lv_at hl 0 rfl) ?_
        refine va_get (D := D) (ci := 7) (C := RX9) (T := TX9) (N := 10) hx hb hts w_2 hown hK hP 0 rfl rfl 6 (by decide) w_1 (fun _ h9 => h9) rfl dX9_does_19 ?_
        refine lv_istore_n (lv' := [(2, .int pp), (0, .ref o), (1, .int x1)]) hx hb dX9_does_22 rfl hl (by decide) rfl (fun ls hl => ?_)
        refine lv_aload_n hx hb dX9_does_23 rfl (lv_at hl 1 rfl) ?_
        refine callVi (As := []) (rest := []) (mX9_command l D cI cC cS _ o q1 q2 q3 q4 q5 Z Bg Pa Tx Q st ln pp f rr ho hL (vp_le (vp_k h0 c15 hL) (by decide))) ⟨hx, hb, hml, hown, hts⟩ (cwV 0 hts gX9_does_X9_command rfl rfl rfl (by decide +kernel) ⟨Nat.le_of_ble_eq_true rfl, Nat.le_of_ble_eq_true rfl⟩) X0_blind (fun _ _ _ => trivial) hP hK hD hS hA hl [0, 1, 2, 3, 4, 5] rfl rfl 0 7 rfl rfl rfl rfl rfl (Nat.le_of_ble_eq_true rfl) dX9_does_24 ⟨Nat.zero_le _, Nat.zero_le _⟩ (fun _ => rfl) (fun u_ H locs hk6 hP hD hS => ?_)
        obtain ⟨r_2, u_3, u_4, u_5, u_6⟩ := u_
        have hP : va_P D vwCl [(o, .inr (7, [.ref q1, .ref q2, .ref q3, .int st, .ref q4, .int ln, .int u_5, .int (bi u_6), .int rr, .ref q5])), (q1, .inl (cI, 314, .inl u_3)), (q2, .inl (cI, 314, .inl Bg)), (q3, .inl (cI, 1256, .inl Pa)), (q4, .inl (cI, 80, .inl Tx)), (q5, .inl (cI, 5, .inl u_4))] H := hP
        have hD : va_D Fr [(o, .inr (7, [.ref q1, .ref q2, .ref q3, .int st, .ref q4, .int ln, .int u_5, .int (bi u_6), .int rr, .ref q5])), (q1, .inl (cI, 314, .inl u_3)), (q2, .inl (cI, 314, .inl Bg)), (q3, .inl (cI, 1256, .inl Pa)), (q4, .inl (cI, 80, .inl Tx)), (q5, .inl (cI, 5, .inl u_4))] := hD
        refine W.eq (g2 := F0 m 27 ls [.int r_2]) rfl ?_
        refine lv_istore_n (lv' := [(3, .int r_2), (2, .int pp), (0, .ref o), (1, .int x1)]) hx hb dX9_does_27 rfl hl (by decide) rfl (fun ls hl => ?_)
        refine lv_aload_n hx hb dX9_does_28 rfl (lv_at hl 2 rfl) ?_
        refine lv_aload_n hx hb dX9_does_29 rfl (lv_at hl 2 rfl) ?_
        refine va_get (D := D) (ci := 7) (C := RX9) (T := TX9) (N := 10) hx hb hts w_2 hown hK hP 0 rfl rfl 7 (by decide) w_4 (fun _ h9 => h9) rfl dX9_does_30 ?_
        refine lv_if_ne (tgt := 40) hx hb dX9_does_33 (by decide) (fun c33 => ?_) (fun c33 => ?_)
        · refine lv_iload_n hx hb dX9_does_40 rfl (lv_at hl 0 rfl) ?_
          refine lv_iconst (v := (-1)) hx hb dX9_does_41 (by decide) ?_
          refine lv_icmp_ne (tgt := 49) hx hb dX9_does_42 (by decide) (fun c42 => ?_) (fun c42 => ?_)
          · refine lv_iload_n hx hb dX9_does_49 rfl (lv_at hl 0 rfl) ?_
            refine lv_if_ge (tgt := 57) hx hb dX9_does_50 (by decide) (fun c50 => ?_) (fun c50 => ?_)
            · refine lv_iconst (v := 0) hx hb dX9_does_57 (by decide) ?_
              refine va_put (D := D) (ci := 7) (v := .int 0) (ty := .int) (C := RX9) (T := TX9) (N := 10) hx hb hts w_2 tyX9 tyX9_ok nmX9 hown hK hP hD hS 0 rfl rfl 8 (by decide) w_5 (fun _ h9 => h9) rfl (by decide +kernel) rfl rfl (Nat.le_of_ble_eq_true rfl) dX9_does_58 (fun H locs hP hD hS => ?_)
              have hP : va_P D vwCl [(o, .inr (7, [.ref q1, .ref q2, .ref q3, .int st, .ref q4, .int ln, .int u_5, .int (bi u_6), .int 0, .ref q5])), (q1, .inl (cI, 314, .inl u_3)), (q2, .inl (cI, 314, .inl Bg)), (q3, .inl (cI, 1256, .inl Pa)), (q4, .inl (cI, 80, .inl Tx)), (q5, .inl (cI, 5, .inl u_4))] H := hP
              have hD : va_D Fr [(o, .inr (7, [.ref q1, .ref q2, .ref q3, .int st, .ref q4, .int ln, .int u_5, .int (bi u_6), .int 0, .ref q5])), (q1, .inl (cI, 314, .inl u_3)), (q2, .inl (cI, 314, .inl Bg)), (q3, .inl (cI, 1256, .inl Pa)), (q4, .inl (cI, 80, .inl Tx)), (q5, .inl (cI, 5, .inl u_4))] := hD
              refine lv_aload_n hx hb dX9_does_61 rfl (lv_at hl 2 rfl) ?_
              refine va_get (D := D) (ci := 7) (C := RX9) (T := TX9) (N := 10) hx hb hts w_2 hown hK hP 0 rfl rfl 8 (by decide) w_5 (fun _ h9 => h9) rfl dX9_does_62 ?_
              refine lv_if_le (tgt := 70) hx hb dX9_does_65 (by decide) (fun _ => ?_) (fun h => absurd (by decide) h)
              refine lv_iinc (v := x1 + 1) (lv' := [(1, .int (x1 + 1)), (3, .int r_2), (2, .int pp), (0, .ref o)]) hx hb dX9_does_70 hl (k := 3) rfl (by rfl) (by decide) rfl (fun ls hl => ?_)
              refine lv_goto (tgt := 7) hx hb dX9_does_73 (by decide) ?_
              exact ih_7 (x1 + 1) u_3 u_4 u_5 u_6 0 _ _ ls hP hD hS (lv_sub hl [3, 0] rfl) ((does_1 hk6 ho h0 c15 hL).1) ((does_1 hk6 ho h0 c15 hL).2.1) (Nat.lt_of_lt_of_le ((does_1 hk6 ho h0 c15 hL).2.2) (Nat.le_of_lt_succ hm_7)) ((E_7).trans ((fX9_does_7_s S Tx Nu ln fm rs fu x1 Z Q pp f rr).trans ((if_neg c15).trans ((bd5_e hk6).trans ((if_pos (bi_o c33)).trans ((if_neg c42).trans ((if_pos c50).trans rfl)))))))
            · refine lv_iconst (v := 3) hx hb dX9_does_53 (by decide) ?_
              refine lv_goto (tgt := 58) hx hb dX9_does_54 (by decide) ?_
              refine va_put (D := D) (ci := 7) (v := .int 3) (ty := .int) (C := RX9) (T := TX9) (N := 10) hx hb hts w_2 tyX9 tyX9_ok nmX9 hown hK hP hD hS 0 rfl rfl 8 (by decide) w_5 (fun _ h9 => h9) rfl (by decide +kernel) rfl rfl (Nat.le_of_ble_eq_true rfl) dX9_does_58 (fun H locs hP hD hS => ?_)
              have hP : va_P D vwCl [(o, .inr (7, [.ref q1, .ref q2, .ref q3, .int st, .ref q4, .int ln, .int u_5, .int (bi u_6), .int 3, .ref q5])), (q1, .inl (cI, 314, .inl u_3)), (q2, .inl (cI, 314, .inl Bg)), (q3, .inl (cI, 1256, .inl Pa)), (q4, .inl (cI, 80, .inl Tx)), (q5, .inl (cI, 5, .inl u_4))] H := hP
              have hD : va_D Fr [(o, .inr (7, [.ref q1, .ref q2, .ref q3, .int st, .ref q4, .int ln, .int u_5, .int (bi u_6), .int 3, .ref q5])), (q1, .inl (cI, 314, .inl u_3)), (q2, .inl (cI, 314, .inl Bg)), (q3, .inl (cI, 1256, .inl Pa)), (q4, .inl (cI, 80, .inl Tx)), (q5, .inl (cI, 5, .inl u_4))] := hD
              refine lv_aload_n hx hb dX9_does_61 rfl (lv_at hl 2 rfl) ?_
              refine va_get (D := D) (ci := 7) (C := RX9) (T := TX9) (N := 10) hx hb hts w_2 hown hK hP 0 rfl rfl 8 (by decide) w_5 (fun _ h9 => h9) rfl dX9_does_62 ?_
              refine lv_if_le (tgt := 70) hx hb dX9_does_65 (by decide) (fun h => absurd h (by decide)) (fun _ => ?_)
              refine lv_iload_n hx hb dX9_does_68 rfl (lv_at hl 1 rfl) ?_
              exact endI hx hb hr hlk hP hK hD hS dX9_does_69 (pp, u_3, u_4, u_5, u_6, 3) rfl ⟨(E_7).trans ((fX9_does_7_s S Tx Nu ln fm rs fu x1 Z Q pp f rr).trans ((if_neg c15).trans ((bd5_e hk6).trans ((if_pos (bi_o c33)).trans ((if_neg c42).trans ((if_neg c50).trans rfl)))))), rfl⟩
          · refine lv_iconst (v := 2) hx hb dX9_does_45 (by decide) ?_
            refine lv_goto (tgt := 58) hx hb dX9_does_46 (by decide) ?_
            refine va_put (D := D) (ci := 7) (v := .int 2) (ty := .int) (C := RX9) (T := TX9) (N := 10) hx hb hts w_2 tyX9 tyX9_ok nmX9 hown hK hP hD hS 0 rfl rfl 8 (by decide) w_5 (fun _ h9 => h9) rfl (by decide +kernel) rfl rfl (Nat.le_of_ble_eq_true rfl) dX9_does_58 (fun H locs hP hD hS => ?_)
            have hP : va_P D vwCl [(o, .inr (7, [.ref q1, .ref q2, .ref q3, .int st, .ref q4, .int ln, .int u_5, .int (bi u_6), .int 2, .ref q5])), (q1, .inl (cI, 314, .inl u_3)), (q2, .inl (cI, 314, .inl Bg)), (q3, .inl (cI, 1256, .inl Pa)), (q4, .inl (cI, 80, .inl Tx)), (q5, .inl (cI, 5, .inl u_4))] H := hP
            have hD : va_D Fr [(o, .inr (7, [.ref q1, .ref q2, .ref q3, .int st, .ref q4, .int ln, .int u_5, .int (bi u_6), .int 2, .ref q5])), (q1, .inl (cI, 314, .inl u_3)), (q2, .inl (cI, 314, .inl Bg)), (q3, .inl (cI, 1256, .inl Pa)), (q4, .inl (cI, 80, .inl Tx)), (q5, .inl (cI, 5, .inl u_4))] := hD
            refine lv_aload_n hx hb dX9_does_61 rfl (lv_at hl 2 rfl) ?_
            refine va_get (D := D) (ci := 7) (C := RX9) (T := TX9) (N := 10) hx hb hts w_2 hown hK hP 0 rfl rfl 8 (by decide) w_5 (fun _ h9 => h9) rfl dX9_does_62 ?_
            refine lv_if_le (tgt := 70) hx hb dX9_does_65 (by decide) (fun h => absurd h (by decide)) (fun _ => ?_)
            refine lv_iload_n hx hb dX9_does_68 rfl (lv_at hl 1 rfl) ?_
            exact endI hx hb hr hlk hP hK hD hS dX9_does_69 (pp, u_3, u_4, u_5, u_6, 2) rfl ⟨(E_7).trans ((fX9_does_7_s S Tx Nu ln fm rs fu x1 Z Q pp f rr).trans ((if_neg c15).trans ((bd5_e hk6).trans ((if_pos (bi_o c33)).trans ((if_pos c42).trans rfl))))), rfl⟩
        · refine lv_iconst (v := 1) hx hb dX9_does_36 (by decide) ?_
          refine lv_goto (tgt := 58) hx hb dX9_does_37 (by decide) ?_
          refine va_put (D := D) (ci := 7) (v := .int 1) (ty := .int) (C := RX9) (T := TX9) (N := 10) hx hb hts w_2 tyX9 tyX9_ok nmX9 hown hK hP hD hS 0 rfl rfl 8 (by decide) w_5 (fun _ h9 => h9) rfl (by decide +kernel) rfl rfl (Nat.le_of_ble_eq_true rfl) dX9_does_58 (fun H locs hP hD hS => ?_)
          have hP : va_P D vwCl [(o, .inr (7, [.ref q1, .ref q2, .ref q3, .int st, .ref q4, .int ln, .int u_5, .int (bi u_6), .int 1, .ref q5])), (q1, .inl (cI, 314, .inl u_3)), (q2, .inl (cI, 314, .inl Bg)), (q3, .inl (cI, 1256, .inl Pa)), (q4, .inl (cI, 80, .inl Tx)), (q5, .inl (cI, 5, .inl u_4))] H := hP
          have hD : va_D Fr [(o, .inr (7, [.ref q1, .ref q2, .ref q3, .int st, .ref q4, .int ln, .int u_5, .int (bi u_6), .int 1, .ref q5])), (q1, .inl (cI, 314, .inl u_3)), (q2, .inl (cI, 314, .inl Bg)), (q3, .inl (cI, 1256, .inl Pa)), (q4, .inl (cI, 80, .inl Tx)), (q5, .inl (cI, 5, .inl u_4))] := hD
          refine lv_aload_n hx hb dX9_does_61 rfl (lv_at hl 2 rfl) ?_
          refine va_get (D := D) (ci := 7) (C := RX9) (T := TX9) (N := 10) hx hb hts w_2 hown hK hP 0 rfl rfl 8 (by decide) w_5 (fun _ h9 => h9) rfl dX9_does_62 ?_
          refine lv_if_le (tgt := 70) hx hb dX9_does_65 (by decide) (fun h => absurd h (by decide)) (fun _ => ?_)
          refine lv_iload_n hx hb dX9_does_68 rfl (lv_at hl 1 rfl) ?_
          exact endI hx hb hr hlk hP hK hD hS dX9_does_69 (pp, u_3, u_4, u_5, u_6, 1) rfl ⟨(E_7).trans ((fX9_does_7_s S Tx Nu ln fm rs fu x1 Z Q pp f rr).trans ((if_neg c15).trans ((bd5_e hk6).trans ((if_neg (bi_z c33)).trans rfl)))), rfl⟩
  exact K_7 ((ln.toInt - (0 : Int32).toInt).toNat + 1) 0 S Nu 0 fm rs _ _ ls hP hD hS (lv_sub hl [1, 0] rfl) ho0 (by decide) (Nat.lt_succ_self _) rfl

/-- the value of X9_fault, path by path -/
def fX9_fault (S : Nat → Int32) (Bg : Nat → Int32) (Tx : Nat → Int32) (Nu : Nat → Int32) (ln : Int32) (ps : Int32) (fm : Bool) (rs : Int32) (what : Int32) : Int32 × (Nat → Int32) × (Nat → Int32) × (Nat → Int32) × Int32 × Bool × Int32 :=
  bd1 (fX9_in what 0 1) (fun (r_2 : Bool) => (if r_2 = true then bd1 (fX9_begins S Bg) (fun (u_5 : Nat → Int32) => bd6 (fX9_does S Tx Nu ln fm rs) (fun (r_7 : Int32) (u_8 : Nat → Int32) (u_9 : Nat → Int32) (u_10 : Int32) (u_11 : Bool) (u_12 : Int32) => bd1 (fX9_returns u_8 u_5) (fun (u_15 : Nat → Int32) => (if (0 : Int32) ≤ r_7 then (if what = 0 then (r_7, u_15, u_5, u_9, u_10, u_11, u_12) else (u_12, u_15, u_5, u_9, u_10, u_11, u_12)) else ((-4), u_15, u_5, u_9, u_10, u_11, u_12))))) else ((-1), S, Bg, Nu, ps, fm, rs)))

set_option maxHeartbeats 4000000 in
set_option maxRecDepth 100000 in
/-- X9_fault -/
theorem mX9_fault (l : Launch) (D : va_G) (cI cC cS : ClassId) (sz : Nat) (o : Nat) (q1 : Nat) (q2 : Nat) (q3 : Nat) (q4 : Nat) (q5 : Nat) (S : Nat → Int32) (Bg : Nat → Int32) (Pa : Nat → Int32) (Tx : Nat → Int32) (Nu : Nat → Int32) (st : Int32) (ln : Int32) (ps : Int32) (fm : Bool) (rs : Int32) (what : Int32) (ho : okS S) (hL : vp_in ln 81) : Met l yX9_fault wsX9_fault ({ frames := 8, cells := 0, slots := 0, locals := 178 } : Jvm.Room) (va_Pc [.ref o, .int what] (wPre D (TY cI cC cS) [(o, .inr (7, [.ref q1, .ref q2, .ref q3, .int st, .ref q4, .int ln, .int ps, .int (bi fm), .int rs, .ref q5])), (q1, .inl (cI, 314, .inl S)), (q2, .inl (cI, 314, .inl Bg)), (q3, .inl (cI, 1256, .inl Pa)), (q4, .inl (cI, 80, .inl Tx)), (q5, .inl (cI, 5, .inl Nu))] sz X0)) (qI D (TY cI cC cS) (fun (r : Int32) (u : Int32 × (Nat → Int32) × (Nat → Int32) × (Nat → Int32) × Int32 × Bool × Int32) => fX9_fault S Bg Tx Nu ln ps fm rs what = u ∧ r = u.1) (fun u => [(o, .inr (7, [.ref q1, .ref q2, .ref q3, .int st, .ref q4, .int ln, .int u.2.2.2.2.1, .int (bi u.2.2.2.2.2.1), .int u.2.2.2.2.2.2, .ref q5])), (q1, .inl (cI, 314, .inl u.2.1)), (q2, .inl (cI, 314, .inl u.2.2.1)), (q3, .inl (cI, 1256, .inl Pa)), (q4, .inl (cI, 80, .inl Tx)), (q5, .inl (cI, 5, .inl u.2.2.2.1))]) (va_A [(o, .inr (7, [.ref q1, .ref q2, .ref q3, .int st, .ref q4, .int ln, .int ps, .int (bi fm), .int rs, .ref q5])), (q1, .inl (cI, 314, .inl S)), (q2, .inl (cI, 314, .inl Bg)), (q3, .inl (cI, 1256, .inl Pa)), (q4, .inl (cI, 80, .inl Tx)), (q5, .inl (cI, 5, .inl Nu))] sz)) 0 0 (va_A [(o, .inr (7, [.ref q1, .ref q2, .ref q3, .int st, .ref q4, .int ln, .int ps, .int (bi fm), .int rs, .ref q5])), (q1, .inl (cI, 314, .inl S)), (q2, .inl (cI, 314, .inl Bg)), (q3, .inl (cI, 1256, .inl Pa)), (q4, .inl (cI, 80, .inl Tx)), (q5, .inl (cI, 5, .inl Nu))] sz) := by
  refine mkM (fun Fr => qI D (TY cI cC cS) (fun (r : Int32) (u : Int32 × (Nat → Int32) × (Nat → Int32) × (Nat → Int32) × Int32 × Bool × Int32) => fX9_fault S Bg Tx Nu ln ps fm rs what = u ∧ r = u.1) (fun u => [(o, .inr (7, [.ref q1, .ref q2, .ref q3, .int st, .ref q4, .int ln, .int u.2.2.2.2.1, .int (bi u.2.2.2.2.2.1), .int u.2.2.2.2.2.2, .ref q5])), (q1, .inl (cI, 314, .inl u.2.1)), (q2, .inl (cI, 314, .inl u.2.2.1)), (q3, .inl (cI, 1256, .inl Pa)), (q4, .inl (cI, 80, .inl Tx)), (q5, .inl (cI, 5, .inl u.2.2.2.1))]) Fr) (cc := cX9_fault) (maxL := 3) (ret := (some .int)) (own := RX9) (lv := [(0, .ref o), (1, .int what)]) (by decide) rfl rfl (Nat.le_of_ble_eq_true rfl) rfl ?_
  intro p e s m below meth c Fr ls hx hb hr hts hown hml hlk hin hP hK hD hS hA hAe hsz hX hl
  have w_1 := hts (.fieldLink RX9 189 "FieldQuotasModel" "reason" "I") (List.mem_of_getElem? (i := 1) rfl)
  have w_2 := sub_r (big := wsX9_fault) (u_ws RX9 TX9 10) [141, 142, 143, 144, 145, 146, 147, 148, 149, 150] rfl
  refine lv_iload_n hx hb dX9_fault_0 rfl (lv_at hl 1 rfl) ?_
  refine lv_iconst (v := 0) hx hb dX9_fault_1 (by decide) ?_
  refine lv_iconst (v := 1) hx hb dX9_fault_2 (by decide) ?_
  refine callSi (As := [.int what, .int 0, .int 1]) (rest := []) (mX9_in l D cI cC cS _ what 0 1) ⟨hx, hb, hml, hown, hts⟩ (va_cwS 3 hts gX9_fault_X9_in rfl rfl rfl (by decide +kernel) ⟨Nat.le_of_ble_eq_true rfl, Nat.le_of_ble_eq_true rfl⟩) hP hK hD hS hA hl rfl rfl (Nat.le_of_ble_eq_true rfl) dX9_fault_3 ⟨Nat.zero_le _, Nat.zero_le _⟩ (fun u_ H locs hk2 hP hS => ?_)
  obtain ⟨r_2, e_r_2⟩ : ∃ z, z = u_ := ⟨_, rfl⟩
  subst e_r_2
  refine W.eq (g2 := F0 m 6 ls [.int (bi r_2)]) rfl ?_
  refine lv_if_ne (tgt := 11) hx hb dX9_fault_6 (by decide) (fun c6 => ?_) (fun c6 => ?_)
  · refine lv_aload_n hx hb dX9_fault_11 rfl (lv_at hl 0 rfl) ?_
    refine callVv (As := []) (rest := []) (mX9_begins l D cI cC cS _ o q1 q2 q3 q4 q5 S Bg Pa Tx Nu st ln ps fm rs) ⟨hx, hb, hml, hown, hts⟩ (cwV 0 hts gX9_fault_X9_begins rfl rfl rfl (by decide +kernel) ⟨Nat.le_of_ble_eq_true rfl, Nat.le_of_ble_eq_true rfl⟩) X0_blind (fun _ _ _ => trivial) hP hK hD hS hA hl [0, 1, 2, 3, 4, 5] rfl rfl 0 7 rfl rfl rfl rfl rfl (Nat.le_of_ble_eq_true rfl) dX9_fault_12 ⟨Nat.zero_le _, Nat.zero_le _⟩ (fun _ => rfl) (fun u_ H locs hk5 hP hD hS => ?_)
    obtain ⟨u_5, e_u_5⟩ : ∃ z, z = u_ := ⟨_, rfl⟩
    subst e_u_5
    have hP : va_P D vwCl [(o, .inr (7, [.ref q1, .ref q2, .ref q3, .int st, .ref q4, .int ln, .int ps, .int (bi fm), .int rs, .ref q5])), (q1, .inl (cI, 314, .inl S)), (q2, .inl (cI, 314, .inl u_5)), (q3, .inl (cI, 1256, .inl Pa)), (q4, .inl (cI, 80, .inl Tx)), (q5, .inl (cI, 5, .inl Nu))] H := hP
    have hD : va_D Fr [(o, .inr (7, [.ref q1, .ref q2, .ref q3, .int st, .ref q4, .int ln, .int ps, .int (bi fm), .int rs, .ref q5])), (q1, .inl (cI, 314, .inl S)), (q2, .inl (cI, 314, .inl u_5)), (q3, .inl (cI, 1256, .inl Pa)), (q4, .inl (cI, 80, .inl Tx)), (q5, .inl (cI, 5, .inl Nu))] := hD
    refine W.eq (g2 := F0 m 15 ls []) rfl ?_
    refine lv_aload_n hx hb dX9_fault_15 rfl (lv_at hl 0 rfl) ?_
    refine callVi (As := []) (rest := []) (mX9_does l D cI cC cS _ o q1 q2 q3 q4 q5 S u_5 Pa Tx Nu st ln ps fm rs ho hL) ⟨hx, hb, hml, hown, hts⟩ (cwV 0 hts gX9_fault_X9_does rfl rfl rfl (by decide +kernel) ⟨Nat.le_of_ble_eq_true rfl, Nat.le_of_ble_eq_true rfl⟩) X0_blind (fun _ _ _ => trivial) hP hK hD hS hA hl [0, 1, 2, 3, 4, 5] rfl rfl 0 7 rfl rfl rfl rfl rfl (Nat.le_of_ble_eq_true rfl) dX9_fault_16 ⟨Nat.zero_le _, Nat.zero_le _⟩ (fun _ => rfl) (fun u_ H locs hk12 hP hD hS => ?_)
    obtain ⟨r_7, u_8, u_9, u_10, u_11, u_12⟩ := u_
    have hP : va_P D vwCl [(o, .inr (7, [.ref q1, .ref q2, .ref q3, .int st, .ref q4, .int ln, .int u_10, .int (bi u_11), .int u_12, .ref q5])), (q1, .inl (cI, 314, .inl u_8)), (q2, .inl (cI, 314, .inl u_5)), (q3, .inl (cI, 1256, .inl Pa)), (q4, .inl (cI, 80, .inl Tx)), (q5, .inl (cI, 5, .inl u_9))] H := hP
    have hD : va_D Fr [(o, .inr (7, [.ref q1, .ref q2, .ref q3, .int st, .ref q4, .int ln, .int u_10, .int (bi u_11), .int u_12, .ref q5])), (q1, .inl (cI, 314, .inl u_8)), (q2, .inl (cI, 314, .inl u_5)), (q3, .inl (cI, 1256, .inl Pa)), (q4, .inl (cI, 80, .inl Tx)), (q5, .inl (cI, 5, .inl u_9))] := hD
    refine W.eq (g2 := F0 m 19 ls [.int r_7]) rfl ?_
    refine lv_istore_n (lv' := [(2, .int r_7), (0, .ref o), (1, .int what)]) hx hb dX9_fault_19 rfl hl (by decide) rfl (fun ls hl => ?_)
    refine lv_aload_n hx hb dX9_fault_20 rfl (lv_at hl 1 rfl) ?_
    refine callVv (As := []) (rest := []) (mX9_returns l D cI cC cS _ o q1 q2 q3 q4 q5 u_8 u_5 Pa Tx u_9 st ln u_10 u_11 u_12) ⟨hx, hb, hml, hown, hts⟩ (cwV 0 hts gX9_fault_X9_returns rfl rfl rfl (by decide +kernel) ⟨Nat.le_of_ble_eq_true rfl, Nat.le_of_ble_eq_true rfl⟩) X0_blind (fun _ _ _ => trivial) hP hK hD hS hA hl [0, 1, 2, 3, 4, 5] rfl rfl 0 7 rfl rfl rfl rfl rfl (Nat.le_of_ble_eq_true rfl) dX9_fault_21 ⟨Nat.zero_le _, Nat.zero_le _⟩ (fun _ => rfl) (fun u_ H locs hk15 hP hD hS => ?_)
    obtain ⟨u_15, e_u_15⟩ : ∃ z, z = u_ := ⟨_, rfl⟩
    subst e_u_15
    have hP : va_P D vwCl [(o, .inr (7, [.ref q1, .ref q2, .ref q3, .int st, .ref q4, .int ln, .int u_10, .int (bi u_11), .int u_12, .ref q5])), (q1, .inl (cI, 314, .inl u_15)), (q2, .inl (cI, 314, .inl u_5)), (q3, .inl (cI, 1256, .inl Pa)), (q4, .inl (cI, 80, .inl Tx)), (q5, .inl (cI, 5, .inl u_9))] H := hP
    have hD : va_D Fr [(o, .inr (7, [.ref q1, .ref q2, .ref q3, .int st, .ref q4, .int ln, .int u_10, .int (bi u_11), .int u_12, .ref q5])), (q1, .inl (cI, 314, .inl u_15)), (q2, .inl (cI, 314, .inl u_5)), (q3, .inl (cI, 1256, .inl Pa)), (q4, .inl (cI, 80, .inl Tx)), (q5, .inl (cI, 5, .inl u_9))] := hD
    refine W.eq (g2 := F0 m 24 ls []) rfl ?_
    refine lv_iload_n hx hb dX9_fault_24 rfl (lv_at hl 0 rfl) ?_
    refine lv_if_ge (tgt := 33) hx hb dX9_fault_25 (by decide) (fun c25 => ?_) (fun c25 => ?_)
    · refine lv_iload_n hx hb dX9_fault_33 rfl (lv_at hl 2 rfl) ?_
      refine lv_if_ne (tgt := 41) hx hb dX9_fault_34 (by decide) (fun c34 => ?_) (fun c34 => ?_)
      · refine lv_aload_n hx hb dX9_fault_41 rfl (lv_at hl 1 rfl) ?_
        refine va_get (D := D) (ci := 7) (C := RX9) (T := TX9) (N := 10) hx hb hts w_2 hown hK hP 0 rfl rfl 8 (by decide) w_1 (fun _ h9 => h9) rfl dX9_fault_42 ?_
        exact endI hx hb hr hlk hP hK hD hS dX9_fault_45 (u_12, u_15, u_5, u_9, u_10, u_11, u_12) rfl ⟨(bd1_e hk2).trans ((if_pos (bi_o c6)).trans ((bd1_e hk5).trans ((bd6_e hk12).trans ((bd1_e hk15).trans ((if_pos c25).trans ((if_neg c34).trans rfl)))))), rfl⟩
      · refine lv_iload_n hx hb dX9_fault_37 rfl (lv_at hl 0 rfl) ?_
        refine lv_goto (tgt := 45) hx hb dX9_fault_38 (by decide) ?_
        exact endI hx hb hr hlk hP hK hD hS dX9_fault_45 (r_7, u_15, u_5, u_9, u_10, u_11, u_12) rfl ⟨(bd1_e hk2).trans ((if_pos (bi_o c6)).trans ((bd1_e hk5).trans ((bd6_e hk12).trans ((bd1_e hk15).trans ((if_pos c25).trans ((if_pos c34).trans rfl)))))), rfl⟩
    · refine lv_bipush (v := (-4)) hx hb dX9_fault_28 (by decide) ?_
      refine lv_goto (tgt := 45) hx hb dX9_fault_30 (by decide) ?_
      exact endI hx hb hr hlk hP hK hD hS dX9_fault_45 ((-4), u_15, u_5, u_9, u_10, u_11, u_12) rfl ⟨(bd1_e hk2).trans ((if_pos (bi_o c6)).trans ((bd1_e hk5).trans ((bd6_e hk12).trans ((bd1_e hk15).trans ((if_neg c25).trans rfl))))), rfl⟩
  · refine lv_iconst (v := (-1)) hx hb dX9_fault_9 (by decide) ?_
    exact endI hx hb hr hlk hP hK hD hS dX9_fault_10 ((-1), S, Bg, Nu, ps, fm, rs) rfl ⟨(bd1_e hk2).trans ((if_neg (bi_z c6)).trans rfl), rfl⟩

/-- the value of X9_play, path by path -/
def fX9_play (S : Nat → Int32) (Bg : Nat → Int32) (Pa : Nat → Int32) (Tx : Nat → Int32) (Nu : Nat → Int32) (st : Int32) (ln : Int32) (fm : Bool) (rs : Int32) : Int32 × (Nat → Int32) × (Nat → Int32) × (Nat → Int32) × (Nat → Int32) × Int32 × Int32 × Bool × Int32 :=
  bd1 (fX9_begins S Bg) (fun (u_3 : Nat → Int32) => bd6 (fX9_does S Tx Nu ln fm rs) (fun (r_5 : Int32) (u_6 : Nat → Int32) (u_7 : Nat → Int32) (u_8 : Int32) (u_9 : Bool) (u_10 : Int32) => (if r_5 < 0 then bd3 (fX9_acted u_3 Pa st ((-1) - r_5)) (fun (r_12 : Int32) (u_13 : Nat → Int32) (u_14 : Int32) => (r_12, u_6, u_3, u_13, u_7, u_14, u_8, u_9, u_10)) else bd1 (fX9_returns u_6 u_3) (fun (u_17 : Nat → Int32) => ((-2), u_17, u_3, Pa, u_7, st, u_8, u_9, u_10)))))

set_option maxHeartbeats 4000000 in
set_option maxRecDepth 100000 in
/-- X9_play -/
theorem mX9_play (l : Launch) (D : va_G) (cI cC cS : ClassId) (sz : Nat) (o : Nat) (q1 : Nat) (q2 : Nat) (q3 : Nat) (q4 : Nat) (q5 : Nat) (S : Nat → Int32) (Bg : Nat → Int32) (Pa : Nat → Int32) (Tx : Nat → Int32) (Nu : Nat → Int32) (st : Int32) (ln : Int32) (ps : Int32) (fm : Bool) (rs : Int32) (ho : okS S) (hL : vp_in ln 81) (ht : vp_in st 5) : Met l yX9_play wsX9_play ({ frames := 8, cells := 0, slots := 0, locals := 178 } : Jvm.Room) (va_Pc [.ref o] (wPre D (TY cI cC cS) [(o, .inr (7, [.ref q1, .ref q2, .ref q3, .int st, .ref q4, .int ln, .int ps, .int (bi fm), .int rs, .ref q5])), (q1, .inl (cI, 314, .inl S)), (q2, .inl (cI, 314, .inl Bg)), (q3, .inl (cI, 1256, .inl Pa)), (q4, .inl (cI, 80, .inl Tx)), (q5, .inl (cI, 5, .inl Nu))] sz X0)) (qI D (TY cI cC cS) (fun (r : Int32) (u : Int32 × (Nat → Int32) × (Nat → Int32) × (Nat → Int32) × (Nat → Int32) × Int32 × Int32 × Bool × Int32) => fX9_play S Bg Pa Tx Nu st ln fm rs = u ∧ r = u.1) (fun u => [(o, .inr (7, [.ref q1, .ref q2, .ref q3, .int u.2.2.2.2.2.1, .ref q4, .int ln, .int u.2.2.2.2.2.2.1, .int (bi u.2.2.2.2.2.2.2.1), .int u.2.2.2.2.2.2.2.2, .ref q5])), (q1, .inl (cI, 314, .inl u.2.1)), (q2, .inl (cI, 314, .inl u.2.2.1)), (q3, .inl (cI, 1256, .inl u.2.2.2.1)), (q4, .inl (cI, 80, .inl Tx)), (q5, .inl (cI, 5, .inl u.2.2.2.2.1))]) (va_A [(o, .inr (7, [.ref q1, .ref q2, .ref q3, .int st, .ref q4, .int ln, .int ps, .int (bi fm), .int rs, .ref q5])), (q1, .inl (cI, 314, .inl S)), (q2, .inl (cI, 314, .inl Bg)), (q3, .inl (cI, 1256, .inl Pa)), (q4, .inl (cI, 80, .inl Tx)), (q5, .inl (cI, 5, .inl Nu))] sz)) 0 0 (va_A [(o, .inr (7, [.ref q1, .ref q2, .ref q3, .int st, .ref q4, .int ln, .int ps, .int (bi fm), .int rs, .ref q5])), (q1, .inl (cI, 314, .inl S)), (q2, .inl (cI, 314, .inl Bg)), (q3, .inl (cI, 1256, .inl Pa)), (q4, .inl (cI, 80, .inl Tx)), (q5, .inl (cI, 5, .inl Nu))] sz) := by
  refine mkM (fun Fr => qI D (TY cI cC cS) (fun (r : Int32) (u : Int32 × (Nat → Int32) × (Nat → Int32) × (Nat → Int32) × (Nat → Int32) × Int32 × Int32 × Bool × Int32) => fX9_play S Bg Pa Tx Nu st ln fm rs = u ∧ r = u.1) (fun u => [(o, .inr (7, [.ref q1, .ref q2, .ref q3, .int u.2.2.2.2.2.1, .ref q4, .int ln, .int u.2.2.2.2.2.2.1, .int (bi u.2.2.2.2.2.2.2.1), .int u.2.2.2.2.2.2.2.2, .ref q5])), (q1, .inl (cI, 314, .inl u.2.1)), (q2, .inl (cI, 314, .inl u.2.2.1)), (q3, .inl (cI, 1256, .inl u.2.2.2.1)), (q4, .inl (cI, 80, .inl Tx)), (q5, .inl (cI, 5, .inl u.2.2.2.2.1))]) Fr) (cc := cX9_play) (maxL := 2) (ret := (some .int)) (own := RX9) (lv := [(0, .ref o)]) (by decide) rfl rfl (Nat.le_of_ble_eq_true rfl) rfl ?_
  intro p e s m below meth c Fr ls hx hb hr hts hown hml hlk hin hP hK hD hS hA hAe hsz hX hl
  refine lv_aload_n hx hb dX9_play_0 rfl (lv_at hl 0 rfl) ?_
  refine callVv (As := []) (rest := []) (mX9_begins l D cI cC cS _ o q1 q2 q3 q4 q5 S Bg Pa Tx Nu st ln ps fm rs) ⟨hx, hb, hml, hown, hts⟩ (cwV 0 hts gX9_play_X9_begins rfl rfl rfl (by decide +kernel) ⟨Nat.le_of_ble_eq_true rfl, Nat.le_of_ble_eq_true rfl⟩) X0_blind (fun _ _ _ => trivial) hP hK hD hS hA hl [0, 1, 2, 3, 4, 5] rfl rfl 0 7 rfl rfl rfl rfl rfl (Nat.le_of_ble_eq_true rfl) dX9_play_1 ⟨Nat.zero_le _, Nat.zero_le _⟩ (fun _ => rfl) (fun u_ H locs hk3 hP hD hS => ?_)
  obtain ⟨u_3, e_u_3⟩ : ∃ z, z = u_ := ⟨_, rfl⟩
  subst e_u_3
  have hP : va_P D vwCl [(o, .inr (7, [.ref q1, .ref q2, .ref q3, .int st, .ref q4, .int ln, .int ps, .int (bi fm), .int rs, .ref q5])), (q1, .inl (cI, 314, .inl S)), (q2, .inl (cI, 314, .inl u_3)), (q3, .inl (cI, 1256, .inl Pa)), (q4, .inl (cI, 80, .inl Tx)), (q5, .inl (cI, 5, .inl Nu))] H := hP
  have hD : va_D Fr [(o, .inr (7, [.ref q1, .ref q2, .ref q3, .int st, .ref q4, .int ln, .int ps, .int (bi fm), .int rs, .ref q5])), (q1, .inl (cI, 314, .inl S)), (q2, .inl (cI, 314, .inl u_3)), (q3, .inl (cI, 1256, .inl Pa)), (q4, .inl (cI, 80, .inl Tx)), (q5, .inl (cI, 5, .inl Nu))] := hD
  refine W.eq (g2 := F0 m 4 ls []) rfl ?_
  refine lv_aload_n hx hb dX9_play_4 rfl (lv_at hl 0 rfl) ?_
  refine callVi (As := []) (rest := []) (mX9_does l D cI cC cS _ o q1 q2 q3 q4 q5 S u_3 Pa Tx Nu st ln ps fm rs ho hL) ⟨hx, hb, hml, hown, hts⟩ (cwV 0 hts gX9_play_X9_does rfl rfl rfl (by decide +kernel) ⟨Nat.le_of_ble_eq_true rfl, Nat.le_of_ble_eq_true rfl⟩) X0_blind (fun _ _ _ => trivial) hP hK hD hS hA hl [0, 1, 2, 3, 4, 5] rfl rfl 0 7 rfl rfl rfl rfl rfl (Nat.le_of_ble_eq_true rfl) dX9_play_5 ⟨Nat.zero_le _, Nat.zero_le _⟩ (fun _ => rfl) (fun u_ H locs hk10 hP hD hS => ?_)
  obtain ⟨r_5, u_6, u_7, u_8, u_9, u_10⟩ := u_
  have hP : va_P D vwCl [(o, .inr (7, [.ref q1, .ref q2, .ref q3, .int st, .ref q4, .int ln, .int u_8, .int (bi u_9), .int u_10, .ref q5])), (q1, .inl (cI, 314, .inl u_6)), (q2, .inl (cI, 314, .inl u_3)), (q3, .inl (cI, 1256, .inl Pa)), (q4, .inl (cI, 80, .inl Tx)), (q5, .inl (cI, 5, .inl u_7))] H := hP
  have hD : va_D Fr [(o, .inr (7, [.ref q1, .ref q2, .ref q3, .int st, .ref q4, .int ln, .int u_8, .int (bi u_9), .int u_10, .ref q5])), (q1, .inl (cI, 314, .inl u_6)), (q2, .inl (cI, 314, .inl u_3)), (q3, .inl (cI, 1256, .inl Pa)), (q4, .inl (cI, 80, .inl Tx)), (q5, .inl (cI, 5, .inl u_7))] := hD
  refine W.eq (g2 := F0 m 8 ls [.int r_5]) rfl ?_
  refine lv_istore_n (lv' := [(1, .int r_5), (0, .ref o)]) hx hb dX9_play_8 rfl hl (by decide) rfl (fun ls hl => ?_)
  refine lv_iload_n hx hb dX9_play_9 rfl (lv_at hl 0 rfl) ?_
  refine lv_if_lt (tgt := 20) hx hb dX9_play_10 (by decide) (fun c10 => ?_) (fun c10 => ?_)
  · refine lv_aload_n hx hb dX9_play_20 rfl (lv_at hl 1 rfl) ?_
    refine lv_iconst (v := (-1)) hx hb dX9_play_21 (by decide) ?_
    refine lv_iload_n hx hb dX9_play_22 rfl (lv_at hl 0 rfl) ?_
    refine lv_isub hx hb dX9_play_23 ?_
    refine callVi (As := [.int ((-1) - r_5)]) (rest := []) (mX9_acted l D cI cC cS _ o q1 q2 q3 q4 q5 u_6 u_3 Pa Tx u_7 st ln u_8 u_9 u_10 ((-1) - r_5) ht) ⟨hx, hb, hml, hown, hts⟩ (cwV 1 hts gX9_play_X9_acted rfl rfl rfl (by decide +kernel) ⟨Nat.le_of_ble_eq_true rfl, Nat.le_of_ble_eq_true rfl⟩) X0_blind (fun _ _ _ => trivial) hP hK hD hS hA hl [0, 1, 2, 3, 4, 5] rfl rfl 0 7 rfl rfl rfl rfl rfl (Nat.le_of_ble_eq_true rfl) dX9_play_24 ⟨Nat.zero_le _, Nat.zero_le _⟩ (fun _ => rfl) (fun u_ H locs hk14 hP hD hS => ?_)
    obtain ⟨r_12, u_13, u_14⟩ := u_
    have hP : va_P D vwCl [(o, .inr (7, [.ref q1, .ref q2, .ref q3, .int u_14, .ref q4, .int ln, .int u_8, .int (bi u_9), .int u_10, .ref q5])), (q1, .inl (cI, 314, .inl u_6)), (q2, .inl (cI, 314, .inl u_3)), (q3, .inl (cI, 1256, .inl u_13)), (q4, .inl (cI, 80, .inl Tx)), (q5, .inl (cI, 5, .inl u_7))] H := hP
    have hD : va_D Fr [(o, .inr (7, [.ref q1, .ref q2, .ref q3, .int u_14, .ref q4, .int ln, .int u_8, .int (bi u_9), .int u_10, .ref q5])), (q1, .inl (cI, 314, .inl u_6)), (q2, .inl (cI, 314, .inl u_3)), (q3, .inl (cI, 1256, .inl u_13)), (q4, .inl (cI, 80, .inl Tx)), (q5, .inl (cI, 5, .inl u_7))] := hD
    refine W.eq (g2 := F0 m 27 ls [.int r_12]) rfl ?_
    exact endI hx hb hr hlk hP hK hD hS dX9_play_27 (r_12, u_6, u_3, u_13, u_7, u_14, u_8, u_9, u_10) rfl ⟨(bd1_e hk3).trans ((bd6_e hk10).trans ((if_pos c10).trans ((bd3_e hk14).trans rfl))), rfl⟩
  · refine lv_aload_n hx hb dX9_play_13 rfl (lv_at hl 1 rfl) ?_
    refine callVv (As := []) (rest := []) (mX9_returns l D cI cC cS _ o q1 q2 q3 q4 q5 u_6 u_3 Pa Tx u_7 st ln u_8 u_9 u_10) ⟨hx, hb, hml, hown, hts⟩ (cwV 0 hts gX9_play_X9_returns rfl rfl rfl (by decide +kernel) ⟨Nat.le_of_ble_eq_true rfl, Nat.le_of_ble_eq_true rfl⟩) X0_blind (fun _ _ _ => trivial) hP hK hD hS hA hl [0, 1, 2, 3, 4, 5] rfl rfl 0 7 rfl rfl rfl rfl rfl (Nat.le_of_ble_eq_true rfl) dX9_play_14 ⟨Nat.zero_le _, Nat.zero_le _⟩ (fun _ => rfl) (fun u_ H locs hk17 hP hD hS => ?_)
    obtain ⟨u_17, e_u_17⟩ : ∃ z, z = u_ := ⟨_, rfl⟩
    subst e_u_17
    have hP : va_P D vwCl [(o, .inr (7, [.ref q1, .ref q2, .ref q3, .int st, .ref q4, .int ln, .int u_8, .int (bi u_9), .int u_10, .ref q5])), (q1, .inl (cI, 314, .inl u_17)), (q2, .inl (cI, 314, .inl u_3)), (q3, .inl (cI, 1256, .inl Pa)), (q4, .inl (cI, 80, .inl Tx)), (q5, .inl (cI, 5, .inl u_7))] H := hP
    have hD : va_D Fr [(o, .inr (7, [.ref q1, .ref q2, .ref q3, .int st, .ref q4, .int ln, .int u_8, .int (bi u_9), .int u_10, .ref q5])), (q1, .inl (cI, 314, .inl u_17)), (q2, .inl (cI, 314, .inl u_3)), (q3, .inl (cI, 1256, .inl Pa)), (q4, .inl (cI, 80, .inl Tx)), (q5, .inl (cI, 5, .inl u_7))] := hD
    refine W.eq (g2 := F0 m 17 ls []) rfl ?_
    refine lv_bipush (v := (-2)) hx hb dX9_play_17 (by decide) ?_
    exact endI hx hb hr hlk hP hK hD hS dX9_play_19 ((-2), u_17, u_3, Pa, u_7, st, u_8, u_9, u_10) rfl ⟨(bd1_e hk3).trans ((bd6_e hk10).trans ((if_neg c10).trans ((bd1_e hk17).trans rfl))), rfl⟩

