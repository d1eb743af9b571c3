/-- the loop of X2_addressesWith at 4 -/
def fX2_addressesWith_4 (RA : Nat → Int32) (na : Int32) (outcome : Int32) : Nat → Int32 → Int32 → Int32
  | 0, _, _ => default
  | fu + 1, x2, x3 =>
    (if na ≤ x3 then x2 else bd1 (fX5_ofAddress RA x3 1) (fun (r_4 : Int32) => (if r_4 = outcome then fX2_addressesWith_4 RA na outcome fu (x2 + 1) (x3 + 1) else fX2_addressesWith_4 RA na outcome fu x2 (x3 + 1))))
theorem fX2_addressesWith_4_s (RA : Nat → Int32) (na : Int32) (outcome : Int32) (fu : Nat) (x2 : Int32) (x3 : Int32) : fX2_addressesWith_4 RA na outcome (fu + 1) x2 x3 =
    (if na ≤ x3 then x2 else bd1 (fX5_ofAddress RA x3 1) (fun (r_4 : Int32) => (if r_4 = outcome then fX2_addressesWith_4 RA na outcome fu (x2 + 1) (x3 + 1) else fX2_addressesWith_4 RA na outcome fu x2 (x3 + 1)))) := rfl

/-- the value of X2_addressesWith, path by path -/
def fX2_addressesWith (RA : Nat → Int32) (na : Int32) (outcome : Int32) : Int32 :=
  fX2_addressesWith_4 RA na outcome ((na.toInt - (0 : Int32).toInt).toNat + 1) 0 0

set_option maxHeartbeats 4000000 in
set_option maxRecDepth 100000 in
/-- X2_addressesWith -/
theorem mX2_addressesWith (l : Launch) (D : va_G) (cI cC cS : ClassId) (sz : Nat) (o : Nat) (h : Nat) (t1 : Nat) (t2 : Nat) (t3 : Nat) (a1 : Nat) (a2 : Nat) (a3 : Nat) (RA : Nat → Int32) (RI : Nat → Int32) (RC : Nat → Int32) (na : Int32) (ni : Int32) (dy : Int32) (vl : Int32) (db : Int32) (outcome : Int32)  : Met l yX2_addressesWith wsX2_addressesWith ({ frames := 2, cells := 0, slots := 0, locals := 45 } : Jvm.Room) (va_Pc [.ref o, .int outcome] (wPre D (TY cI cC cS) [(o, .inr (1, [.ref h])), (h, .inr (4, [.ref t1, .ref t2, .ref t3, .int na, .int ni, .int dy, .int vl, .int db])), (t1, .inr (5, [.ref a1, .int 10])), (t2, .inr (5, [.ref a2, .int 6])), (t3, .inr (5, [.ref a3, .int 3])), (a1, .inl (cI, 240, .inl RA)), (a2, .inl (cI, 30, .inl RI)), (a3, .inl (cI, 36, .inl RC))] sz wN)) (qI D (TY cI cC cS) (fun (r : Int32) (u : Int32) => fX2_addressesWith RA na outcome = u ∧ r = u) (fun u => [(o, .inr (1, [.ref h])), (h, .inr (4, [.ref t1, .ref t2, .ref t3, .int na, .int ni, .int dy, .int vl, .int db])), (t1, .inr (5, [.ref a1, .int 10])), (t2, .inr (5, [.ref a2, .int 6])), (t3, .inr (5, [.ref a3, .int 3])), (a1, .inl (cI, 240, .inl RA)), (a2, .inl (cI, 30, .inl RI)), (a3, .inl (cI, 36, .inl RC))]) (va_A [(o, .inr (1, [.ref h])), (h, .inr (4, [.ref t1, .ref t2, .ref t3, .int na, .int ni, .int dy, .int vl, .int db])), (t1, .inr (5, [.ref a1, .int 10])), (t2, .inr (5, [.ref a2, .int 6])), (t3, .inr (5, [.ref a3, .int 3])), (a1, .inl (cI, 240, .inl RA)), (a2, .inl (cI, 30, .inl RI)), (a3, .inl (cI, 36, .inl RC))] sz)) 0 0 (va_A [(o, .inr (1, [.ref h])), (h, .inr (4, [.ref t1, .ref t2, .ref t3, .int na, .int ni, .int dy, .int vl, .int db])), (t1, .inr (5, [.ref a1, .int 10])), (t2, .inr (5, [.ref a2, .int 6])), (t3, .inr (5, [.ref a3, .int 3])), (a1, .inl (cI, 240, .inl RA)), (a2, .inl (cI, 30, .inl RI)), (a3, .inl (cI, 36, .inl RC))] sz) := by
  refine mkM (fun Fr => qI D (TY cI cC cS) (fun (r : Int32) (u : Int32) => fX2_addressesWith RA na outcome = u ∧ r = u) (fun u => [(o, .inr (1, [.ref h])), (h, .inr (4, [.ref t1, .ref t2, .ref t3, .int na, .int ni, .int dy, .int vl, .int db])), (t1, .inr (5, [.ref a1, .int 10])), (t2, .inr (5, [.ref a2, .int 6])), (t3, .inr (5, [.ref a3, .int 3])), (a1, .inl (cI, 240, .inl RA)), (a2, .inl (cI, 30, .inl RI)), (a3, .inl (cI, 36, .inl RC))]) Fr) (cc := cX2_addressesWith) (maxL := 4) (ret := (some .int)) (own := RX2) (lv := [(0, .ref o), (1, .int outcome)]) (by decide) rfl rfl (Nat.le_of_ble_eq_true rfl) rfl ?_
  intro p e s m below meth c Fr ls hx hb hr hts hown hml hlk hin hP hK hD hS hA hAe hsz hX hl
  have w_1 := hts (.fieldLink RX2 9 "FieldQuotas$Overview" "survey" "LFieldQuotas$Survey;") (List.mem_of_getElem? (i := 1) rfl)
  have w_2 := sub_r (big := wsX2_addressesWith) (u_ws RX2 TX2 1) [20] rfl
  refine lv_iconst (v := 0) hx hb dX2_addressesWith_0 (by decide) ?_
  refine lv_istore_n (lv' := [(2, .int 0), (0, .ref o), (1, .int outcome)]) hx hb dX2_addressesWith_1 rfl hl (by decide) rfl (fun ls hl => ?_)
  refine lv_iconst (v := 0) hx hb dX2_addressesWith_2 (by decide) ?_
  refine lv_istore_n (lv' := [(3, .int 0), (2, .int 0), (0, .ref o), (1, .int outcome)]) hx hb dX2_addressesWith_3 rfl hl (by decide) rfl (fun ls hl => ?_)
  have K_4 : ∀ (fu : Nat) (x2 : Int32) (x3 : Int32) (H : Heap) (locs : List Loc) (ls : Array Slot), va_P D vwCl [(o, .inr (1, [.ref h])), (h, .inr (4, [.ref t1, .ref t2, .ref t3, .int na, .int ni, .int dy, .int vl, .int db])), (t1, .inr (5, [.ref a1, .int 10])), (t2, .inr (5, [.ref a2, .int 6])), (t3, .inr (5, [.ref a3, .int 3])), (a1, .inl (cI, 240, .inl RA)), (a2, .inl (cI, 30, .inl RI)), (a3, .inl (cI, 36, .inl RC))] H → va_D Fr [(o, .inr (1, [.ref h])), (h, .inr (4, [.ref t1, .ref t2, .ref t3, .int na, .int ni, .int dy, .int vl, .int db])), (t1, .inr (5, [.ref a1, .int 10])), (t2, .inr (5, [.ref a2, .int 6])), (t3, .inr (5, [.ref a3, .int 3])), (a1, .inl (cI, 240, .inl RA)), (a2, .inl (cI, 30, .inl RI)), (a3, .inl (cI, 36, .inl RC))] → va_S Fr s.heap H locs → lv_has ls 4 [(0, .ref o), (1, .int outcome), (2, .int x2), (3, .int x3)] → (na.toInt - x3.toInt).toNat < fu → fX2_addressesWith RA na outcome = fX2_addressesWith_4 RA na outcome fu x2 x3 → W p l e (headSpec wsX2_addressesWith ({ frames := 2, cells := 0, slots := 0, locals := 45 } : Jvm.Room)).room s m ([.ref o, .int outcome] : List Value).toArray below meth c H locs 0 0 (MQ below (qI D (TY cI cC cS) (fun (r : Int32) (u : Int32) => fX2_addressesWith RA na outcome = u ∧ r = u) (fun u => [(o, .inr (1, [.ref h])), (h, .inr (4, [.ref t1, .ref t2, .ref t3, .int na, .int ni, .int dy, .int vl, .int db])), (t1, .inr (5, [.ref a1, .int 10])), (t2, .inr (5, [.ref a2, .int 6])), (t3, .inr (5, [.ref a3, .int 3])), (a1, .inl (cI, 240, .inl RA)), (a2, .inl (cI, 30, .inl RI)), (a3, .inl (cI, 36, .inl RC))]) Fr) ([.ref o, .int outcome] : List Value).toArray s 0 0 Fr) (F0 m 4 ls []) := by
    intro fu
    induction fu with
    | zero => intros; exact absurd (by assumption) (Nat.not_lt_zero _)
    | succ fu ih_4 =>
      intro x2 x3 H locs ls hP hD hS hl  hm_4 E_4
      refine lv_iload_n hx hb dX2_addressesWith_4 rfl (lv_at hl 3 rfl) ?_
      refine lv_aload_n hx hb dX2_addressesWith_5 rfl (lv_at hl 0 rfl) ?_
      refine va_get (D := D) (ci := 1) (C := RX2) (T := TX2) (N := 1) hx hb hts w_2 hown hK hP 0 rfl rfl 0 (by decide) w_1 (fun _ h9 => h9) rfl dX2_addressesWith_6 ?_
      refine callVi (As := []) (rest := [.int x3]) (mX5_addressCount l D cI cC cS _ h t1 t2 t3 a1 a2 a3 RA RI RC na ni dy vl db) ⟨hx, hb, hml, hown, hts⟩ (cwV 0 hts gX2_addressesWith_X5_addressCount rfl rfl rfl (by decide +kernel) ⟨Nat.le_of_ble_eq_true rfl, Nat.le_of_ble_eq_true rfl⟩) wN_blind (fun _ _ hW => wN_warm hW hX) hP hK hD hS hA hl [1, 2, 3, 4, 5, 6, 7] rfl rfl 0 4 rfl rfl rfl rfl rfl (Nat.le_of_ble_eq_true rfl) dX2_addressesWith_9 ⟨Nat.zero_le _, Nat.zero_le _⟩ (fun _ => rfl) (fun u_ H locs hk2 hP hD hS => ?_)
      obtain ⟨r_2, e_r_2⟩ : ∃ z, z = u_ := ⟨_, rfl⟩
      subst e_r_2
      have hP : va_P D vwCl [(o, .inr (1, [.ref h])), (h, .inr (4, [.ref t1, .ref t2, .ref t3, .int na, .int ni, .int dy, .int vl, .int db])), (t1, .inr (5, [.ref a1, .int 10])), (t2, .inr (5, [.ref a2, .int 6])), (t3, .inr (5, [.ref a3, .int 3])), (a1, .inl (cI, 240, .inl RA)), (a2, .inl (cI, 30, .inl RI)), (a3, .inl (cI, 36, .inl RC))] H := hP
      have hD : va_D Fr [(o, .inr (1, [.ref h])), (h, .inr (4, [.ref t1, .ref t2, .ref t3, .int na, .int ni, .int dy, .int vl, .int db])), (t1, .inr (5, [.ref a1, .int 10])), (t2, .inr (5, [.ref a2, .int 6])), (t3, .inr (5, [.ref a3, .int 3])), (a1, .inl (cI, 240, .inl RA)), (a2, .inl (cI, 30, .inl RI)), (a3, .inl (cI, 36, .inl RC))] := hD
      have hk2 : na = r_2 := hk2
      subst hk2
      refine W.eq (g2 := F0 m 12 ls [.int na, .int x3]) rfl ?_
      refine lv_icmp_ge (tgt := 37) hx hb dX2_addressesWith_12 (by decide) (fun c12 => ?_) (fun c12 => ?_)
      · refine lv_iload_n hx hb dX2_addressesWith_37 rfl (lv_at hl 2 rfl) ?_
        exact endI hx hb hr hlk hP hK hD hS dX2_addressesWith_38 x2 rfl ⟨(E_4).trans ((fX2_addressesWith_4_s RA na outcome fu x2 x3).trans ((if_pos c12).trans rfl)), rfl⟩
      · refine lv_aload_n hx hb dX2_addressesWith_15 rfl (lv_at hl 0 rfl) ?_
        refine va_get (D := D) (ci := 1) (C := RX2) (T := TX2) (N := 1) hx hb hts w_2 hown hK hP 0 rfl rfl 0 (by decide) w_1 (fun _ h9 => h9) rfl dX2_addressesWith_16 ?_
        refine lv_iload_n hx hb dX2_addressesWith_19 rfl (lv_at hl 3 rfl) ?_
        refine lv_iconst (v := 1) hx hb dX2_addressesWith_20 (by decide) ?_
        refine callVi (As := [.int x3, .int 1]) (rest := []) (mX5_ofAddress l D cI cC cS _ h t1 t2 t3 a1 a2 a3 RA RI RC na ni dy vl db x3 1) ⟨hx, hb, hml, hown, hts⟩ (cwV 2 hts gX2_addressesWith_X5_ofAddress rfl rfl rfl (by decide +kernel) ⟨Nat.le_of_ble_eq_true rfl, Nat.le_of_ble_eq_true rfl⟩) wN_blind (fun _ _ hW => wN_warm hW hX) hP hK hD hS hA hl [1, 2, 3, 4, 5, 6, 7] rfl rfl 0 4 rfl rfl rfl rfl rfl (Nat.le_of_ble_eq_true rfl) dX2_addressesWith_21 ⟨Nat.zero_le _, Nat.zero_le _⟩ (fun _ => rfl) (fun u_ H locs hk4 hP hD hS => ?_)
        obtain ⟨r_4, e_r_4⟩ : ∃ z, z = u_ := ⟨_, rfl⟩
        subst e_r_4
        have hP : va_P D vwCl [(o, .inr (1, [.ref h])), (h, .inr (4, [.ref t1, .ref t2, .ref t3, .int na, .int ni, .int dy, .int vl, .int db])), (t1, .inr (5, [.ref a1, .int 10])), (t2, .inr (5, [.ref a2, .int 6])), (t3, .inr (5, [.ref a3, .int 3])), (a1, .inl (cI, 240, .inl RA)), (a2, .inl (cI, 30, .inl RI)), (a3, .inl (cI, 36, .inl RC))] H := hP
        have hD : va_D Fr [(o, .inr (1, [.ref h])), (h, .inr (4, [.ref t1, .ref t2, .ref t3, .int na, .int ni, .int dy, .int vl, .int db])), (t1, .inr (5, [.ref a1, .int 10])), (t2, .inr (5, [.ref a2, .int 6])), (t3, .inr (5, [.ref a3, .int 3])), (a1, .inl (cI, 240, .inl RA)), (a2, .inl (cI, 30, .inl RI)), (a3, .inl (cI, 36, .inl RC))] := hD
        refine W.eq (g2 := F0 m 24 ls [.int r_4]) rfl ?_
        refine lv_iload_n hx hb dX2_addressesWith_24 rfl (lv_at hl 1 rfl) ?_
        refine lv_icmp_ne (tgt := 31) hx hb dX2_addressesWith_25 (by decide) (fun c25 => ?_) (fun c25 => ?_)
        · refine lv_iinc (v := x3 + 1) (lv' := [(3, .int (x3 + 1)), (0, .ref o), (1, .int outcome), (2, .int x2)]) hx hb dX2_addressesWith_31 hl (k := 3) rfl (by rfl) (by decide) rfl (fun ls hl => ?_)
          refine lv_goto (tgt := 4) hx hb dX2_addressesWith_34 (by decide) ?_
          exact ih_4 x2 (x3 + 1) _ _ ls hP hD hS (lv_sub hl [1, 2, 3, 0] rfl) (Nat.lt_of_lt_of_le (lp_dec c12) (Nat.le_of_lt_succ hm_4)) ((E_4).trans ((fX2_addressesWith_4_s RA na outcome fu x2 x3).trans ((if_neg c12).trans ((bd1_e hk4).trans ((if_neg c25).trans rfl)))))
        · refine lv_iinc (v := x2 + 1) (lv' := [(2, .int (x2 + 1)), (0, .ref o), (1, .int outcome), (3, .int x3)]) hx hb dX2_addressesWith_28 hl (k := 2) rfl (by rfl) (by decide) rfl (fun ls hl => ?_)
          refine lv_iinc (v := x3 + 1) (lv' := [(3, .int (x3 + 1)), (2, .int (x2 + 1)), (0, .ref o), (1, .int outcome)]) hx hb dX2_addressesWith_31 hl (k := 3) rfl (by rfl) (by decide) rfl (fun ls hl => ?_)
          refine lv_goto (tgt := 4) hx hb dX2_addressesWith_34 (by decide) ?_
          exact ih_4 (x2 + 1) (x3 + 1) _ _ ls hP hD hS (lv_sub hl [2, 3, 1, 0] rfl) (Nat.lt_of_lt_of_le (lp_dec c12) (Nat.le_of_lt_succ hm_4)) ((E_4).trans ((fX2_addressesWith_4_s RA na outcome fu x2 x3).trans ((if_neg c12).trans ((bd1_e hk4).trans ((if_pos c25).trans rfl)))))
  exact K_4 ((na.toInt - (0 : Int32).toInt).toNat + 1) 0 0 _ _ ls hP hD hS (lv_sub hl [2, 3, 1, 0] rfl) (Nat.lt_succ_self _) rfl

/-- the loop of X2_sumOfAddresses at 4 -/
def fX2_sumOfAddresses_4 (RA : Nat → Int32) (na : Int32) (column : Int32) : Nat → Int32 → Int32 → Int32
  | 0, _, _ => default
  | fu + 1, x2, x3 =>
    (if na ≤ x3 then x2 else bd1 (fX5_ofAddress RA x3 column) (fun (r_4 : Int32) => bd1 (x2 + r_4) (fun (y_5 : Int32) => fX2_sumOfAddresses_4 RA na column fu y_5 (x3 + 1))))
theorem fX2_sumOfAddresses_4_s (RA : Nat → Int32) (na : Int32) (column : Int32) (fu : Nat) (x2 : Int32) (x3 : Int32) : fX2_sumOfAddresses_4 RA na column (fu + 1) x2 x3 =
    (if na ≤ x3 then x2 else bd1 (fX5_ofAddress RA x3 column) (fun (r_4 : Int32) => bd1 (x2 + r_4) (fun (y_5 : Int32) => fX2_sumOfAddresses_4 RA na column fu y_5 (x3 + 1)))) := rfl

/-- the value of X2_sumOfAddresses, path by path -/
def fX2_sumOfAddresses (RA : Nat → Int32) (na : Int32) (column : Int32) : Int32 :=
  fX2_sumOfAddresses_4 RA na column ((na.toInt - (0 : Int32).toInt).toNat + 1) 0 0

set_option maxHeartbeats 4000000 in
set_option maxRecDepth 100000 in
/-- X2_sumOfAddresses -/
theorem mX2_sumOfAddresses (l : Launch) (D : va_G) (cI cC cS : ClassId) (sz : Nat) (o : Nat) (h : Nat) (t1 : Nat) (t2 : Nat) (t3 : Nat) (a1 : Nat) (a2 : Nat) (a3 : Nat) (RA : Nat → Int32) (RI : Nat → Int32) (RC : Nat → Int32) (na : Int32) (ni : Int32) (dy : Int32) (vl : Int32) (db : Int32) (column : Int32)  : Met l yX2_sumOfAddresses wsX2_sumOfAddresses ({ frames := 2, cells := 0, slots := 0, locals := 45 } : Jvm.Room) (va_Pc [.ref o, .int column] (wPre D (TY cI cC cS) [(o, .inr (1, [.ref h])), (h, .inr (4, [.ref t1, .ref t2, .ref t3, .int na, .int ni, .int dy, .int vl, .int db])), (t1, .inr (5, [.ref a1, .int 10])), (t2, .inr (5, [.ref a2, .int 6])), (t3, .inr (5, [.ref a3, .int 3])), (a1, .inl (cI, 240, .inl RA)), (a2, .inl (cI, 30, .inl RI)), (a3, .inl (cI, 36, .inl RC))] sz wN)) (qI D (TY cI cC cS) (fun (r : Int32) (u : Int32) => fX2_sumOfAddresses RA na column = u ∧ r = u) (fun u => [(o, .inr (1, [.ref h])), (h, .inr (4, [.ref t1, .ref t2, .ref t3, .int na, .int ni, .int dy, .int vl, .int db])), (t1, .inr (5, [.ref a1, .int 10])), (t2, .inr (5, [.ref a2, .int 6])), (t3, .inr (5, [.ref a3, .int 3])), (a1, .inl (cI, 240, .inl RA)), (a2, .inl (cI, 30, .inl RI)), (a3, .inl (cI, 36, .inl RC))]) (va_A [(o, .inr (1, [.ref h])), (h, .inr (4, [.ref t1, .ref t2, .ref t3, .int na, .int ni, .int dy, .int vl, .int db])), (t1, .inr (5, [.ref a1, .int 10])), (t2, .inr (5, [.ref a2, .int 6])), (t3, .inr (5, [.ref a3, .int 3])), (a1, .inl (cI, 240, .inl RA)), (a2, .inl (cI, 30, .inl RI)), (a3, .inl (cI, 36, .inl RC))] sz)) 0 0 (va_A [(o, .inr (1, [.ref h])), (h, .inr (4, [.ref t1, .ref t2, .ref t3, .int na, .int ni, .int dy, .int vl, .int db])), (t1, .inr (5, [.ref a1, .int 10])), (t2, .inr (5, [.ref a2, .int 6])), (t3, .inr (5, [.ref a3, .int 3])), (a1, .inl (cI, 240, .inl RA)), (a2, .inl (cI, 30, .inl RI)), (a3, .inl (cI, 36, .inl RC))] sz) := by
  refine mkM (fun Fr => qI D (TY cI cC cS) (fun (r : Int32) (u : Int32) => fX2_sumOfAddresses RA na column = u ∧ r = u) (fun u => [(o, .inr (1, [.ref h])), (h, .inr (4, [.ref t1, .ref t2, .ref t3, .int na, .int ni, .int dy, .int vl, .int db])), (t1, .inr (5, [.ref a1, .int 10])), (t2, .inr (5, [.ref a2, .int 6])), (t3, .inr (5, [.ref a3, .int 3])), (a1, .inl (cI, 240, .inl RA)), (a2, .inl (cI, 30, .inl RI)), (a3, .inl (cI, 36, .inl RC))]) Fr) (cc := cX2_sumOfAddresses) (maxL := 4) (ret := (some .int)) (own := RX2) (lv := [(0, .ref o), (1, .int column)]) (by decide) rfl rfl (Nat.le_of_ble_eq_true rfl) rfl ?_
  intro p e s m below meth c Fr ls hx hb hr hts hown hml hlk hin hP hK hD hS hA hAe hsz hX hl
  have w_1 := hts (.fieldLink RX2 9 "FieldQuotas$Overview" "survey" "LFieldQuotas$Survey;") (List.mem_of_getElem? (i := 1) rfl)
  have w_2 := sub_r (big := wsX2_sumOfAddresses) (u_ws RX2 TX2 1) [20] rfl
  refine lv_iconst (v := 0) hx hb dX2_sumOfAddresses_0 (by decide) ?_
  refine lv_istore_n (lv' := [(2, .int 0), (0, .ref o), (1, .int column)]) hx hb dX2_sumOfAddresses_1 rfl hl (by decide) rfl (fun ls hl => ?_)
  refine lv_iconst (v := 0) hx hb dX2_sumOfAddresses_2 (by decide) ?_
  refine lv_istore_n (lv' := [(3, .int 0), (2, .int 0), (0, .ref o), (1, .int column)]) hx hb dX2_sumOfAddresses_3 rfl hl (by decide) rfl (fun ls hl => ?_)
  have K_4 : ∀ (fu : Nat) (x2 : Int32) (x3 : Int32) (H : Heap) (locs : List Loc) (ls : Array Slot), va_P D vwCl [(o, .inr (1, [.ref h])), (h, .inr (4, [.ref t1, .ref t2, .ref t3, .int na, .int ni, .int dy, .int vl, .int db])), (t1, .inr (5, [.ref a1, .int 10])), (t2, .inr (5, [.ref a2, .int 6])), (t3, .inr (5, [.ref a3, .int 3])), (a1, .inl (cI, 240, .inl RA)), (a2, .inl (cI, 30, .inl RI)), (a3, .inl (cI, 36, .inl RC))] H → va_D Fr [(o, .inr (1, [.ref h])), (h, .inr (4, [.ref t1, .ref t2, .ref t3, .int na, .int ni, .int dy, .int vl, .int db])), (t1, .inr (5, [.ref a1, .int 10])), (t2, .inr (5, [.ref a2, .int 6])), (t3, .inr (5, [.ref a3, .int 3])), (a1, .inl (cI, 240, .inl RA)), (a2, .inl (cI, 30, .inl RI)), (a3, .inl (cI, 36, .inl RC))] → va_S Fr s.heap H locs → lv_has ls 4 [(0, .ref o), (1, .int column), (2, .int x2), (3, .int x3)] → (na.toInt - x3.toInt).toNat < fu → fX2_sumOfAddresses RA na column = fX2_sumOfAddresses_4 RA na column fu x2 x3 → W p l e (headSpec wsX2_sumOfAddresses ({ frames := 2, cells := 0, slots := 0, locals := 45 } : Jvm.Room)).room s m ([.ref o, .int column] : List Value).toArray below meth c H locs 0 0 (MQ below (qI D (TY cI cC cS) (fun (r : Int32) (u : Int32) => fX2_sumOfAddresses RA na column = u ∧ r = u) (fun u => [(o, .inr (1, [.ref h])), (h, .inr (4, [.ref t1, .ref t2, .ref t3, .int na, .int ni, .int dy, .int vl, .int db])), (t1, .inr (5, [.ref a1, .int 10])), (t2, .inr (5, [.ref a2, .int 6])), (t3, .inr (5, [.ref a3, .int 3])), (a1, .inl (cI, 240, .inl RA)), (a2, .inl (cI, 30, .inl RI)), (a3, .inl (cI, 36, .inl RC))]) Fr) ([.ref o, .int column] : List Value).toArray s 0 0 Fr) (F0 m 4 ls []) := by
    intro fu
    induction fu with
    | zero => intros; exact absurd (by assumption) (Nat.not_lt_zero _)
    | succ fu ih_4 =>
      intro x2 x3 H locs ls hP hD hS hl  hm_4 E_4
      refine lv_iload_n hx hb dX2_sumOfAddresses_4 rfl (lv_at hl 3 rfl) ?_
      refine lv_aload_n hx hb dX2_sumOfAddresses_5 rfl (lv_at hl 0 rfl) ?_
      refine va_get (D := D) (ci := 1) (C := RX2) (T := TX2) (N := 1) hx hb hts w_2 hown hK hP 0 rfl rfl 0 (by decide) w_1 (fun _ h9 => h9) rfl dX2_sumOfAddresses_6 ?_
      refine callVi (As := []) (rest := [.int x3]) (mX5_addressCount l D cI cC cS _ h t1 t2 t3 a1 a2 a3 RA RI RC na ni dy vl db) ⟨hx, hb, hml, hown, hts⟩ (cwV 0 hts gX2_sumOfAddresses_X5_addressCount rfl rfl rfl (by decide +kernel) ⟨Nat.le_of_ble_eq_true rfl, Nat.le_of_ble_eq_true rfl⟩) wN_blind (fun _ _ hW => wN_warm hW hX) hP hK hD hS hA hl [1, 2, 3, 4, 5, 6, 7] rfl rfl 0 4 rfl rfl rfl rfl rfl (Nat.le_of_ble_eq_true rfl) dX2_sumOfAddresses_9 ⟨Nat.zero_le _, Nat.zero_le _⟩ (fun _ => rfl) (fun u_ H locs hk2 hP hD hS => ?_)
      obtain ⟨r_2, e_r_2⟩ : ∃ z, z = u_ := ⟨_, rfl⟩
      subst e_r_2
      have hP : va_P D vwCl [(o, .inr (1, [.ref h])), (h, .inr (4, [.ref t1, .ref t2, .ref t3, .int na, .int ni, .int dy, .int vl, .int db])), (t1, .inr (5, [.ref a1, .int 10])), (t2, .inr (5, [.ref a2, .int 6])), (t3, .inr (5, [.ref a3, .int 3])), (a1, .inl (cI, 240, .inl RA)), (a2, .inl (cI, 30, .inl RI)), (a3, .inl (cI, 36, .inl RC))] H := hP
      have hD : va_D Fr [(o, .inr (1, [.ref h])), (h, .inr (4, [.ref t1, .ref t2, .ref t3, .int na, .int ni, .int dy, .int vl, .int db])), (t1, .inr (5, [.ref a1, .int 10])), (t2, .inr (5, [.ref a2, .int 6])), (t3, .inr (5, [.ref a3, .int 3])), (a1, .inl (cI, 240, .inl RA)), (a2, .inl (cI, 30, .inl RI)), (a3, .inl (cI, 36, .inl RC))] := hD
      have hk2 : na = r_2 := hk2
      subst hk2
      refine W.eq (g2 := F0 m 12 ls [.int na, .int x3]) rfl ?_
      refine lv_icmp_ge (tgt := 33) hx hb dX2_sumOfAddresses_12 (by decide) (fun c12 => ?_) (fun c12 => ?_)
      · refine lv_iload_n hx hb dX2_sumOfAddresses_33 rfl (lv_at hl 2 rfl) ?_
        exact endI hx hb hr hlk hP hK hD hS dX2_sumOfAddresses_34 x2 rfl ⟨(E_4).trans ((fX2_sumOfAddresses_4_s RA na column fu x2 x3).trans ((if_pos c12).trans rfl)), rfl⟩
      · refine lv_iload_n hx hb dX2_sumOfAddresses_15 rfl (lv_at hl 2 rfl) ?_
        refine lv_aload_n hx hb dX2_sumOfAddresses_16 rfl (lv_at hl 0 rfl) ?_
        refine va_get (D := D) (ci := 1) (C := RX2) (T := TX2) (N := 1) hx hb hts w_2 hown hK hP 0 rfl rfl 0 (by decide) w_1 (fun _ h9 => h9) rfl dX2_sumOfAddresses_17 ?_
        refine lv_iload_n hx hb dX2_sumOfAddresses_20 rfl (lv_at hl 3 rfl) ?_
        refine lv_iload_n hx hb dX2_sumOfAddresses_21 rfl (lv_at hl 1 rfl) ?_
        refine callVi (As := [.int x3, .int column]) (rest := [.int x2]) (mX5_ofAddress l D cI cC cS _ h t1 t2 t3 a1 a2 a3 RA RI RC na ni dy vl db x3 column) ⟨hx, hb, hml, hown, hts⟩ (cwV 2 hts gX2_sumOfAddresses_X5_ofAddress rfl rfl rfl (by decide +kernel) ⟨Nat.le_of_ble_eq_true rfl, Nat.le_of_ble_eq_true rfl⟩) wN_blind (fun _ _ hW => wN_warm hW hX) hP hK hD hS hA hl [1, 2, 3, 4, 5, 6, 7] rfl rfl 0 4 rfl rfl rfl rfl rfl (Nat.le_of_ble_eq_true rfl) dX2_sumOfAddresses_22 ⟨Nat.zero_le _, Nat.zero_le _⟩ (fun _ => rfl) (fun u_ H locs hk4 hP hD hS => ?_)
        obtain ⟨r_4, e_r_4⟩ : ∃ z, z = u_ := ⟨_, rfl⟩
        subst e_r_4
        have hP : va_P D vwCl [(o, .inr (1, [.ref h])), (h, .inr (4, [.ref t1, .ref t2, .ref t3, .int na, .int ni, .int dy, .int vl, .int db])), (t1, .inr (5, [.ref a1, .int 10])), (t2, .inr (5, [.ref a2, .int 6])), (t3, .inr (5, [.ref a3, .int 3])), (a1, .inl (cI, 240, .inl RA)), (a2, .inl (cI, 30, .inl RI)), (a3, .inl (cI, 36, .inl RC))] H := hP
        have hD : va_D Fr [(o, .inr (1, [.ref h])), (h, .inr (4, [.ref t1, .ref t2, .ref t3, .int na, .int ni, .int dy, .int vl, .int db])), (t1, .inr (5, [.ref a1, .int 10])), (t2, .inr (5, [.ref a2, .int 6])), (t3, .inr (5, [.ref a3, .int 3])), (a1, .inl (cI, 240, .inl RA)), (a2, .inl (cI, 30, .inl RI)), (a3, .inl (cI, 36, .inl RC))] := hD
        refine W.eq (g2 := F0 m 25 ls [.int r_4, .int x2]) rfl ?_
        refine lv_iadd hx hb dX2_sumOfAddresses_25 ?_
        refine lv_topi (fun y_5 ey_5 => ?_)
        refine lv_istore_n (lv' := [(2, .int y_5), (0, .ref o), (1, .int column), (3, .int x3)]) hx hb dX2_sumOfAddresses_26 rfl hl (by decide) rfl (fun ls hl => ?_)
        refine lv_iinc (v := x3 + 1) (lv' := [(3, .int (x3 + 1)), (2, .int y_5), (0, .ref o), (1, .int column)]) hx hb dX2_sumOfAddresses_27 hl (k := 3) rfl (by rfl) (by decide) rfl (fun ls hl => ?_)
        refine lv_goto (tgt := 4) hx hb dX2_sumOfAddresses_30 (by decide) ?_
        exact ih_4 y_5 (x3 + 1) _ _ ls hP hD hS (lv_sub hl [2, 3, 1, 0] rfl) (Nat.lt_of_lt_of_le (lp_dec c12) (Nat.le_of_lt_succ hm_4)) ((E_4).trans ((fX2_sumOfAddresses_4_s RA na column fu x2 x3).trans ((if_neg c12).trans ((bd1_e hk4).trans ((bd1_n ey_5).trans rfl)))))
  exact K_4 ((na.toInt - (0 : Int32).toInt).toNat + 1) 0 0 _ _ ls hP hD hS (lv_sub hl [2, 3, 1, 0] rfl) (Nat.lt_succ_self _) rfl

/-- the loop of X2_sumOfInterviewers at 4 -/
def fX2_sumOfInterviewers_4 (RI : Nat → Int32) (ni : Int32) (column : Int32) : Nat → Int32 → Int32 → Int32
  | 0, _, _ => default
  | fu + 1, x2, x3 =>
    (if ni ≤ x3 then x2 else bd1 (fX5_ofInterviewer RI x3 column) (fun (r_4 : Int32) => bd1 (x2 + r_4) (fun (y_5 : Int32) => fX2_sumOfInterviewers_4 RI ni column fu y_5 (x3 + 1))))
theorem fX2_sumOfInterviewers_4_s (RI : Nat → Int32) (ni : Int32) (column : Int32) (fu : Nat) (x2 : Int32) (x3 : Int32) : fX2_sumOfInterviewers_4 RI ni column (fu + 1) x2 x3 =
    (if ni ≤ x3 then x2 else bd1 (fX5_ofInterviewer RI x3 column) (fun (r_4 : Int32) => bd1 (x2 + r_4) (fun (y_5 : Int32) => fX2_sumOfInterviewers_4 RI ni column fu y_5 (x3 + 1)))) := rfl

/-- the value of X2_sumOfInterviewers, path by path -/
def fX2_sumOfInterviewers (RI : Nat → Int32) (ni : Int32) (column : Int32) : Int32 :=
  fX2_sumOfInterviewers_4 RI ni column ((ni.toInt - (0 : Int32).toInt).toNat + 1) 0 0

set_option maxHeartbeats 4000000 in
set_option maxRecDepth 100000 in
/-- X2_sumOfInterviewers -/
theorem mX2_sumOfInterviewers (l : Launch) (D : va_G) (cI cC cS : ClassId) (sz : Nat) (o : Nat) (h : Nat) (t1 : Nat) (t2 : Nat) (t3 : Nat) (a1 : Nat) (a2 : Nat) (a3 : Nat) (RA : Nat → Int32) (RI : Nat → Int32) (RC : Nat → Int32) (na : Int32) (ni : Int32) (dy : Int32) (vl : Int32) (db : Int32) (column : Int32)  : Met l yX2_sumOfInterviewers wsX2_sumOfInterviewers ({ frames := 2, cells := 0, slots := 0, locals := 45 } : Jvm.Room) (va_Pc [.ref o, .int column] (wPre D (TY cI cC cS) [(o, .inr (1, [.ref h])), (h, .inr (4, [.ref t1, .ref t2, .ref t3, .int na, .int ni, .int dy, .int vl, .int db])), (t1, .inr (5, [.ref a1, .int 10])), (t2, .inr (5, [.ref a2, .int 6])), (t3, .inr (5, [.ref a3, .int 3])), (a1, .inl (cI, 240, .inl RA)), (a2, .inl (cI, 30, .inl RI)), (a3, .inl (cI, 36, .inl RC))] sz wN)) (qI D (TY cI cC cS) (fun (r : Int32) (u : Int32) => fX2_sumOfInterviewers RI ni column = u ∧ r = u) (fun u => [(o, .inr (1, [.ref h])), (h, .inr (4, [.ref t1, .ref t2, .ref t3, .int na, .int ni, .int dy, .int vl, .int db])), (t1, .inr (5, [.ref a1, .int 10])), (t2, .inr (5, [.ref a2, .int 6])), (t3, .inr (5, [.ref a3, .int 3])), (a1, .inl (cI, 240, .inl RA)), (a2, .inl (cI, 30, .inl RI)), (a3, .inl (cI, 36, .inl RC))]) (va_A [(o, .inr (1, [.ref h])), (h, .inr (4, [.ref t1, .ref t2, .ref t3, .int na, .int ni, .int dy, .int vl, .int db])), (t1, .inr (5, [.ref a1, .int 10])), (t2, .inr (5, [.ref a2, .int 6])), (t3, .inr (5, [.ref a3, .int 3])), (a1, .inl (cI, 240, .inl RA)), (a2, .inl (cI, 30, .inl RI)), (a3, .inl (cI, 36, .inl RC))] sz)) 0 0 (va_A [(o, .inr (1, [.ref h])), (h, .inr (4, [.ref t1, .ref t2, .ref t3, .int na, .int ni, .int dy, .int vl, .int db])), (t1, .inr (5, [.ref a1, .int 10])), (t2, .inr (5, [.ref a2, .int 6])), (t3, .inr (5, [.ref a3, .int 3])), (a1, .inl (cI, 240, .inl RA)), (a2, .inl (cI, 30, .inl RI)), (a3, .inl (cI, 36, .inl RC))] sz) := by
  refine mkM (fun Fr => qI D (TY cI cC cS) (fun (r : Int32) (u : Int32) => fX2_sumOfInterviewers RI ni column = u ∧ r = u) (fun u => [(o, .inr (1, [.ref h])), (h, .inr (4, [.ref t1, .ref t2, .ref t3, .int na, .int ni, .int dy, .int vl, .int db])), (t1, .inr (5, [.ref a1, .int 10])), (t2, .inr (5, [.ref a2, .int 6])), (t3, .inr (5, [.ref a3, .int 3])), (a1, .inl (cI, 240, .inl RA)), (a2, .inl (cI, 30, .inl RI)), (a3, .inl (cI, 36, .inl RC))]) Fr) (cc := cX2_sumOfInterviewers) (maxL := 4) (ret := (some .int)) (own := RX2) (lv := [(0, .ref o), (1, .int column)]) (by decide) rfl rfl (Nat.le_of_ble_eq_true rfl) rfl ?_
  intro p e s m below meth c Fr ls hx hb hr hts hown hml hlk hin hP hK hD hS hA hAe hsz hX hl
  have w_1 := hts (.fieldLink RX2 9 "FieldQuotas$Overview" "survey" "LFieldQuotas$Survey;") (List.mem_of_getElem? (i := 1) rfl)
  have w_2 := sub_r (big := wsX2_sumOfInterviewers) (u_ws RX2 TX2 1) [20] rfl
  refine lv_iconst (v := 0) hx hb dX2_sumOfInterviewers_0 (by decide) ?_
  refine lv_istore_n (lv' := [(2, .int 0), (0, .ref o), (1, .int column)]) hx hb dX2_sumOfInterviewers_1 rfl hl (by decide) rfl (fun ls hl => ?_)
  refine lv_iconst (v := 0) hx hb dX2_sumOfInterviewers_2 (by decide) ?_
  refine lv_istore_n (lv' := [(3, .int 0), (2, .int 0), (0, .ref o), (1, .int column)]) hx hb dX2_sumOfInterviewers_3 rfl hl (by decide) rfl (fun ls hl => ?_)
  have K_4 : ∀ (fu : Nat) (x2 : Int32) (x3 : Int32) (H : Heap) (locs : List Loc) (ls : Array Slot), va_P D vwCl [(o, .inr (1, [.ref h])), (h, .inr (4, [.ref t1, .ref t2, .ref t3, .int na, .int ni, .int dy, .int vl, .int db])), (t1, .inr (5, [.ref a1, .int 10])), (t2, .inr (5, [.ref a2, .int 6])), (t3, .inr (5, [.ref a3, .int 3])), (a1, .inl (cI, 240, .inl RA)), (a2, .inl (cI, 30, .inl RI)), (a3, .inl (cI, 36, .inl RC))] H → va_D Fr [(o, .inr (1, [.ref h])), (h, .inr (4, [.ref t1, .ref t2, .ref t3, .int na, .int ni, .int dy, .int vl, .int db])), (t1, .inr (5, [.ref a1, .int 10])), (t2, .inr (5, [.ref a2, .int 6])), (t3, .inr (5, [.ref a3, .int 3])), (a1, .inl (cI, 240, .inl RA)), (a2, .inl (cI, 30, .inl RI)), (a3, .inl (cI, 36, .inl RC))] → va_S Fr s.heap H locs → lv_has ls 4 [(0, .ref o), (1, .int column), (2, .int x2), (3, .int x3)] → (ni.toInt - x3.toInt).toNat < fu → fX2_sumOfInterviewers RI ni column = fX2_sumOfInterviewers_4 RI ni column fu x2 x3 → W p l e (headSpec wsX2_sumOfInterviewers ({ frames := 2, cells := 0, slots := 0, locals := 45 } : Jvm.Room)).room s m ([.ref o, .int column] : List Value).toArray below meth c H locs 0 0 (MQ below (qI D (TY cI cC cS) (fun (r : Int32) (u : Int32) => fX2_sumOfInterviewers RI ni column = u ∧ r = u) (fun u => [(o, .inr (1, [.ref h])), (h, .inr (4, [.ref t1, .ref t2, .ref t3, .int na, .int ni, .int dy, .int vl, .int db])), (t1, .inr (5, [.ref a1, .int 10])), (t2, .inr (5, [.ref a2, .int 6])), (t3, .inr (5, [.ref a3, .int 3])), (a1, .inl (cI, 240, .inl RA)), (a2, .inl (cI, 30, .inl RI)), (a3, .inl (cI, 36, .inl RC))]) Fr) ([.ref o, .int column] : List Value).toArray s 0 0 Fr) (F0 m 4 ls []) := by
    intro fu
    induction fu with
    | zero => intros; exact absurd (by assumption) (Nat.not_lt_zero _)
    | succ fu ih_4 =>
      intro x2 x3 H locs ls hP hD hS hl  hm_4 E_4
      refine lv_iload_n hx hb dX2_sumOfInterviewers_4 rfl (lv_at hl 3 rfl) ?_
      refine lv_aload_n hx hb dX2_sumOfInterviewers_5 rfl (lv_at hl 0 rfl) ?_
      refine va_get (D := D) (ci := 1) (C := RX2) (T := TX2) (N := 1) hx hb hts w_2 hown hK hP 0 rfl rfl 0 (by decide) w_1 (fun _ h9 => h9) rfl dX2_sumOfInterviewers_6 ?_
      refine callVi (As := []) (rest := [.int x3]) (mX5_interviewerCount l D cI cC cS _ h t1 t2 t3 a1 a2 a3 RA RI RC na ni dy vl db) ⟨hx, hb, hml, hown, hts⟩ (cwV 0 hts gX2_sumOfInterviewers_X5_interviewerCount rfl rfl rfl (by decide +kernel) ⟨Nat.le_of_ble_eq_true rfl, Nat.le_of_ble_eq_true rfl⟩) wN_blind (fun _ _ hW => wN_warm hW hX) hP hK hD hS hA hl [1, 2, 3, 4, 5, 6, 7] rfl rfl 0 4 rfl rfl rfl rfl rfl (Nat.le_of_ble_eq_true rfl) dX2_sumOfInterviewers_9 ⟨Nat.zero_le _, Nat.zero_le _⟩ (fun _ => rfl) (fun u_ H locs hk2 hP hD hS => ?_)
      obtain ⟨r_2, e_r_2⟩ : ∃ z, z = u_ := ⟨_, rfl⟩
      subst e_r_2
      have hP : va_P D vwCl [(o, .inr (1, [.ref h])), (h, .inr (4, [.ref t1, .ref t2, .ref t3, .int na, .int ni, .int dy, .int vl, .int db])), (t1, .inr (5, [.ref a1, .int 10])), (t2, .inr (5, [.ref a2, .int 6])), (t3, .inr (5, [.ref a3, .int 3])), (a1, .inl (cI, 240, .inl RA)), (a2, .inl (cI, 30, .inl RI)), (a3, .inl (cI, 36, .inl RC))] H := hP
      have hD : va_D Fr [(o, .inr (1, [.ref h])), (h, .inr (4, [.ref t1, .ref t2, .ref t3, .int na, .int ni, .int dy, .int vl, .int db])), (t1, .inr (5, [.ref a1, .int 10])), (t2, .inr (5, [.ref a2, .int 6])), (t3, .inr (5, [.ref a3, .int 3])), (a1, .inl (cI, 240, .inl RA)), (a2, .inl (cI, 30, .inl RI)), (a3, .inl (cI, 36, .inl RC))] := hD
      have hk2 : ni = r_2 := hk2
      subst hk2
      refine W.eq (g2 := F0 m 12 ls [.int ni, .int x3]) rfl ?_
      refine lv_icmp_ge (tgt := 33) hx hb dX2_sumOfInterviewers_12 (by decide) (fun c12 => ?_) (fun c12 => ?_)
      · refine lv_iload_n hx hb dX2_sumOfInterviewers_33 rfl (lv_at hl 2 rfl) ?_
        exact endI hx hb hr hlk hP hK hD hS dX2_sumOfInterviewers_34 x2 rfl ⟨(E_4).trans ((fX2_sumOfInterviewers_4_s RI ni column fu x2 x3).trans ((if_pos c12).trans rfl)), rfl⟩
      · refine lv_iload_n hx hb dX2_sumOfInterviewers_15 rfl (lv_at hl 2 rfl) ?_
        refine lv_aload_n hx hb dX2_sumOfInterviewers_16 rfl (lv_at hl 0 rfl) ?_
        refine va_get (D := D) (ci := 1) (C := RX2) (T := TX2) (N := 1) hx hb hts w_2 hown hK hP 0 rfl rfl 0 (by decide) w_1 (fun _ h9 => h9) rfl dX2_sumOfInterviewers_17 ?_
        refine lv_iload_n hx hb dX2_sumOfInterviewers_20 rfl (lv_at hl 3 rfl) ?_
        refine lv_iload_n hx hb dX2_sumOfInterviewers_21 rfl (lv_at hl 1 rfl) ?_
        refine callVi (As := [.int x3, .int column]) (rest := [.int x2]) (mX5_ofInterviewer l D cI cC cS _ h t1 t2 t3 a1 a2 a3 RA RI RC na ni dy vl db x3 column) ⟨hx, hb, hml, hown, hts⟩ (cwV 2 hts gX2_sumOfInterviewers_X5_ofInterviewer rfl rfl rfl (by decide +kernel) ⟨Nat.le_of_ble_eq_true rfl, Nat.le_of_ble_eq_true rfl⟩) wN_blind (fun _ _ hW => wN_warm hW hX) hP hK hD hS hA hl [1, 2, 3, 4, 5, 6, 7] rfl rfl 0 4 rfl rfl rfl rfl rfl (Nat.le_of_ble_eq_true rfl) dX2_sumOfInterviewers_22 ⟨Nat.zero_le _, Nat.zero_le _⟩ (fun _ => rfl) (fun u_ H locs hk4 hP hD hS => ?_)
        obtain ⟨r_4, e_r_4⟩ : ∃ z, z = u_ := ⟨_, rfl⟩
        subst e_r_4
        have hP : va_P D vwCl [(o, .inr (1, [.ref h])), (h, .inr (4, [.ref t1, .ref t2, .ref t3, .int na, .int ni, .int dy, .int vl, .int db])), (t1, .inr (5, [.ref a1, .int 10])), (t2, .inr (5, [.ref a2, .int 6])), (t3, .inr (5, [.ref a3, .int 3])), (a1, .inl (cI, 240, .inl RA)), (a2, .inl (cI, 30, .inl RI)), (a3, .inl (cI, 36, .inl RC))] H := hP
        have hD : va_D Fr [(o, .inr (1, [.ref h])), (h, .inr (4, [.ref t1, .ref t2, .ref t3, .int na, .int ni, .int dy, .int vl, .int db])), (t1, .inr (5, [.ref a1, .int 10])), (t2, .inr (5, [.ref a2, .int 6])), (t3, .inr (5, [.ref a3, .int 3])), (a1, .inl (cI, 240, .inl RA)), (a2, .inl (cI, 30, .inl RI)), (a3, .inl (cI, 36, .inl RC))] := hD
        refine W.eq (g2 := F0 m 25 ls [.int r_4, .int x2]) rfl ?_
        refine lv_iadd hx hb dX2_sumOfInterviewers_25 ?_
        refine lv_topi (fun y_5 ey_5 => ?_)
        refine lv_istore_n (lv' := [(2, .int y_5), (0, .ref o), (1, .int column), (3, .int x3)]) hx hb dX2_sumOfInterviewers_26 rfl hl (by decide) rfl (fun ls hl => ?_)
        refine lv_iinc (v := x3 + 1) (lv' := [(3, .int (x3 + 1)), (2, .int y_5), (0, .ref o), (1, .int column)]) hx hb dX2_sumOfInterviewers_27 hl (k := 3) rfl (by rfl) (by decide) rfl (fun ls hl => ?_)
        refine lv_goto (tgt := 4) hx hb dX2_sumOfInterviewers_30 (by decide) ?_
        exact ih_4 y_5 (x3 + 1) _ _ ls hP hD hS (lv_sub hl [2, 3, 1, 0] rfl) (Nat.lt_of_lt_of_le (lp_dec c12) (Nat.le_of_lt_succ hm_4)) ((E_4).trans ((fX2_sumOfInterviewers_4_s RI ni column fu x2 x3).trans ((if_neg c12).trans ((bd1_e hk4).trans ((bd1_n ey_5).trans rfl)))))
  exact K_4 ((ni.toInt - (0 : Int32).toInt).toNat + 1) 0 0 _ _ ls hP hD hS (lv_sub hl [2, 3, 1, 0] rfl) (Nat.lt_succ_self _) rfl

/-- the loop of X2_wantedInArea at 4 -/
def fX2_wantedInArea_4 (RC : Nat → Int32) (area : Int32) : Nat → Int32 → Int32 → Int32
  | 0, _, _ => default
  | fu + 1, x2, x3 =>
    (if (3 : Int32) ≤ x3 then x2 else bd1 (fX5_wantedIn RC area x3) (fun (r_2 : Int32) => bd1 (x2 + r_2) (fun (y_3 : Int32) => fX2_wantedInArea_4 RC area fu y_3 (x3 + 1))))
theorem fX2_wantedInArea_4_s (RC : Nat → Int32) (area : Int32) (fu : Nat) (x2 : Int32) (x3 : Int32) : fX2_wantedInArea_4 RC area (fu + 1) x2 x3 =
    (if (3 : Int32) ≤ x3 then x2 else bd1 (fX5_wantedIn RC area x3) (fun (r_2 : Int32) => bd1 (x2 + r_2) (fun (y_3 : Int32) => fX2_wantedInArea_4 RC area fu y_3 (x3 + 1)))) := rfl

/-- the value of X2_wantedInArea, path by path -/
def fX2_wantedInArea (RC : Nat → Int32) (area : Int32) : Int32 :=
  fX2_wantedInArea_4 RC area (((3 : Int32).toInt - (0 : Int32).toInt).toNat + 1) 0 0

set_option maxHeartbeats 4000000 in
set_option maxRecDepth 100000 in
/-- X2_wantedInArea -/
theorem mX2_wantedInArea (l : Launch) (D : va_G) (cI cC cS : ClassId) (sz : Nat) (o : Nat) (h : Nat) (t1 : Nat) (t2 : Nat) (t3 : Nat) (a1 : Nat) (a2 : Nat) (a3 : Nat) (RA : Nat → Int32) (RI : Nat → Int32) (RC : Nat → Int32) (na : Int32) (ni : Int32) (dy : Int32) (vl : Int32) (db : Int32) (area : Int32)  : Met l yX2_wantedInArea wsX2_wantedInArea ({ frames := 2, cells := 0, slots := 0, locals := 47 } : Jvm.Room) (va_Pc [.ref o, .int area] (wPre D (TY cI cC cS) [(o, .inr (1, [.ref h])), (h, .inr (4, [.ref t1, .ref t2, .ref t3, .int na, .int ni, .int dy, .int vl, .int db])), (t1, .inr (5, [.ref a1, .int 10])), (t2, .inr (5, [.ref a2, .int 6])), (t3, .inr (5, [.ref a3, .int 3])), (a1, .inl (cI, 240, .inl RA)), (a2, .inl (cI, 30, .inl RI)), (a3, .inl (cI, 36, .inl RC))] sz wN)) (qI D (TY cI cC cS) (fun (r : Int32) (u : Int32) => fX2_wantedInArea RC area = u ∧ r = u) (fun u => [(o, .inr (1, [.ref h])), (h, .inr (4, [.ref t1, .ref t2, .ref t3, .int na, .int ni, .int dy, .int vl, .int db])), (t1, .inr (5, [.ref a1, .int 10])), (t2, .inr (5, [.ref a2, .int 6])), (t3, .inr (5, [.ref a3, .int 3])), (a1, .inl (cI, 240, .inl RA)), (a2, .inl (cI, 30, .inl RI)), (a3, .inl (cI, 36, .inl RC))]) (va_A [(o, .inr (1, [.ref h])), (h, .inr (4, [.ref t1, .ref t2, .ref t3, .int na, .int ni, .int dy, .int vl, .int db])), (t1, .inr (5, [.ref a1, .int 10])), (t2, .inr (5, [.ref a2, .int 6])), (t3, .inr (5, [.ref a3, .int 3])), (a1, .inl (cI, 240, .inl RA)), (a2, .inl (cI, 30, .inl RI)), (a3, .inl (cI, 36, .inl RC))] sz)) 0 0 (va_A [(o, .inr (1, [.ref h])), (h, .inr (4, [.ref t1, .ref t2, .ref t3, .int na, .int ni, .int dy, .int vl, .int db])), (t1, .inr (5, [.ref a1, .int 10])), (t2, .inr (5, [.ref a2, .int 6])), (t3, .inr (5, [.ref a3, .int 3])), (a1, .inl (cI, 240, .inl RA)), (a2, .inl (cI, 30, .inl RI)), (a3, .inl (cI, 36, .inl RC))] sz) := by
  refine mkM (fun Fr => qI D (TY cI cC cS) (fun (r : Int32) (u : Int32) => fX2_wantedInArea RC area = u ∧ r = u) (fun u => [(o, .inr (1, [.ref h])), (h, .inr (4, [.ref t1, .ref t2, .ref t3, .int na, .int ni, .int dy, .int vl, .int db])), (t1, .inr (5, [.ref a1, .int 10])), (t2, .inr (5, [.ref a2, .int 6])), (t3, .inr (5, [.ref a3, .int 3])), (a1, .inl (cI, 240, .inl RA)), (a2, .inl (cI, 30, .inl RI)), (a3, .inl (cI, 36, .inl RC))]) Fr) (cc := cX2_wantedInArea) (maxL := 4) (ret := (some .int)) (own := RX2) (lv := [(0, .ref o), (1, .int area)]) (by decide) rfl rfl (Nat.le_of_ble_eq_true rfl) rfl ?_
  intro p e s m below meth c Fr ls hx hb hr hts hown hml hlk hin hP hK hD hS hA hAe hsz hX hl
  have w_1 := hts (.fieldLink RX2 9 "FieldQuotas$Overview" "survey" "LFieldQuotas$Survey;") (List.mem_of_getElem? (i := 1) rfl)
  have w_2 := sub_r (big := wsX2_wantedInArea) (u_ws RX2 TX2 1) [15] rfl
  refine lv_iconst (v := 0) hx hb dX2_wantedInArea_0 (by decide) ?_
  refine lv_istore_n (lv' := [(2, .int 0), (0, .ref o), (1, .int area)]) hx hb dX2_wantedInArea_1 rfl hl (by decide) rfl (fun ls hl => ?_)
  refine lv_iconst (v := 0) hx hb dX2_wantedInArea_2 (by decide) ?_
  refine lv_istore_n (lv' := [(3, .int 0), (2, .int 0), (0, .ref o), (1, .int area)]) hx hb dX2_wantedInArea_3 rfl hl (by decide) rfl (fun ls hl => ?_)
  have K_4 : ∀ (fu : Nat) (x2 : Int32) (x3 : Int32) (H : Heap) (locs : List Loc) (ls : Array Slot), va_P D vwCl [(o, .inr (1, [.ref h])), (h, .inr (4, [.ref t1, .ref t2, .ref t3, .int na, .int ni, .int dy, .int vl, .int db])), (t1, .inr (5, [.ref a1, .int 10])), (t2, .inr (5, [.ref a2, .int 6])), (t3, .inr (5, [.ref a3, .int 3])), (a1, .inl (cI, 240, .inl RA)), (a2, .inl (cI, 30, .inl RI)), (a3, .inl (cI, 36, .inl RC))] H → va_D Fr [(o, .inr (1, [.ref h])), (h, .inr (4, [.ref t1, .ref t2, .ref t3, .int na, .int ni, .int dy, .int vl, .int db])), (t1, .inr (5, [.ref a1, .int 10])), (t2, .inr (5, [.ref a2, .int 6])), (t3, .inr (5, [.ref a3, .int 3])), (a1, .inl (cI, 240, .inl RA)), (a2, .inl (cI, 30, .inl RI)), (a3, .inl (cI, 36, .inl RC))] → va_S Fr s.heap H locs → lv_has ls 4 [(0, .ref o), (1, .int area), (2, .int x2), (3, .int x3)] → ((3 : Int32).toInt - x3.toInt).toNat < fu → fX2_wantedInArea RC area = fX2_wantedInArea_4 RC area fu x2 x3 → W p l e (headSpec wsX2_wantedInArea ({ frames := 2, cells := 0, slots := 0, locals := 47 } : Jvm.Room)).room s m ([.ref o, .int area] : List Value).toArray below meth c H locs 0 0 (MQ below (qI D (TY cI cC cS) (fun (r : Int32) (u : Int32) => fX2_wantedInArea RC area = u ∧ r = u) (fun u => [(o, .inr (1, [.ref h])), (h, .inr (4, [.ref t1, .ref t2, .ref t3, .int na, .int ni, .int dy, .int vl, .int db])), (t1, .inr (5, [.ref a1, .int 10])), (t2, .inr (5, [.ref a2, .int 6])), (t3, .inr (5, [.ref a3, .int 3])), (a1, .inl (cI, 240, .inl RA)), (a2, .inl (cI, 30, .inl RI)), (a3, .inl (cI, 36, .inl RC))]) Fr) ([.ref o, .int area] : List Value).toArray s 0 0 Fr) (F0 m 4 ls []) := by
    intro fu
    induction fu with
    | zero => intros; exact absurd (by assumption) (Nat.not_lt_zero _)
    | succ fu ih_4 =>
      intro x2 x3 H locs ls hP hD hS hl  hm_4 E_4
      refine lv_iload_n hx hb dX2_wantedInArea_4 rfl (lv_at hl 3 rfl) ?_
      refine lv_iconst (v := 3) hx hb dX2_wantedInArea_5 (by decide) ?_
      refine lv_icmp_ge (tgt := 27) hx hb dX2_wantedInArea_6 (by decide) (fun c6 => ?_) (fun c6 => ?_)
      · refine lv_iload_n hx hb dX2_wantedInArea_27 rfl (lv_at hl 2 rfl) ?_
        exact endI hx hb hr hlk hP hK hD hS dX2_wantedInArea_28 x2 rfl ⟨(E_4).trans ((fX2_wantedInArea_4_s RC area fu x2 x3).trans ((if_pos c6).trans rfl)), rfl⟩
      · refine lv_iload_n hx hb dX2_wantedInArea_9 rfl (lv_at hl 2 rfl) ?_
        refine lv_aload_n hx hb dX2_wantedInArea_10 rfl (lv_at hl 0 rfl) ?_
        refine va_get (D := D) (ci := 1) (C := RX2) (T := TX2) (N := 1) hx hb hts w_2 hown hK hP 0 rfl rfl 0 (by decide) w_1 (fun _ h9 => h9) rfl dX2_wantedInArea_11 ?_
        refine lv_iload_n hx hb dX2_wantedInArea_14 rfl (lv_at hl 1 rfl) ?_
        refine lv_iload_n hx hb dX2_wantedInArea_15 rfl (lv_at hl 3 rfl) ?_
        refine callVi (As := [.int area, .int x3]) (rest := [.int x2]) (mX5_wantedIn l D cI cC cS _ h t1 t2 t3 a1 a2 a3 RA RI RC na ni dy vl db area x3) ⟨hx, hb, hml, hown, hts⟩ (cwV 2 hts gX2_wantedInArea_X5_wantedIn rfl rfl rfl (by decide +kernel) ⟨Nat.le_of_ble_eq_true rfl, Nat.le_of_ble_eq_true rfl⟩) wN_blind (fun _ _ hW => wN_warm hW hX) hP hK hD hS hA hl [1, 2, 3, 4, 5, 6, 7] rfl rfl 0 4 rfl rfl rfl rfl rfl (Nat.le_of_ble_eq_true rfl) dX2_wantedInArea_16 ⟨Nat.zero_le _, Nat.zero_le _⟩ (fun _ => rfl) (fun u_ H locs hk2 hP hD hS => ?_)
        obtain ⟨r_2, e_r_2⟩ : ∃ z, z = u_ := ⟨_, rfl⟩
        subst e_r_2
        have hP : va_P D vwCl [(o, .inr (1, [.ref h])), (h, .inr (4, [.ref t1, .ref t2, .ref t3, .int na, .int ni, .int dy, .int vl, .int db])), (t1, .inr (5, [.ref a1, .int 10])), (t2, .inr (5, [.ref a2, .int 6])), (t3, .inr (5, [.ref a3, .int 3])), (a1, .inl (cI, 240, .inl RA)), (a2, .inl (cI, 30, .inl RI)), (a3, .inl (cI, 36, .inl RC))] H := hP
        have hD : va_D Fr [(o, .inr (1, [.ref h])), (h, .inr (4, [.ref t1, .ref t2, .ref t3, .int na, .int ni, .int dy, .int vl, .int db])), (t1, .inr (5, [.ref a1, .int 10])), (t2, .inr (5, [.ref a2, .int 6])), (t3, .inr (5, [.ref a3, .int 3])), (a1, .inl (cI, 240, .inl RA)), (a2, .inl (cI, 30, .inl RI)), (a3, .inl (cI, 36, .inl RC))] := hD
        refine W.eq (g2 := F0 m 19 ls [.int r_2, .int x2]) rfl ?_
        refine lv_iadd hx hb dX2_wantedInArea_19 ?_
        refine lv_topi (fun y_3 ey_3 => ?_)
        refine lv_istore_n (lv' := [(2, .int y_3), (0, .ref o), (1, .int area), (3, .int x3)]) hx hb dX2_wantedInArea_20 rfl hl (by decide) rfl (fun ls hl => ?_)
        refine lv_iinc (v := x3 + 1) (lv' := [(3, .int (x3 + 1)), (2, .int y_3), (0, .ref o), (1, .int area)]) hx hb dX2_wantedInArea_21 hl (k := 3) rfl (by rfl) (by decide) rfl (fun ls hl => ?_)
        refine lv_goto (tgt := 4) hx hb dX2_wantedInArea_24 (by decide) ?_
        exact ih_4 y_3 (x3 + 1) _ _ ls hP hD hS (lv_sub hl [2, 3, 1, 0] rfl) (Nat.lt_of_lt_of_le (lp_dec c6) (Nat.le_of_lt_succ hm_4)) ((E_4).trans ((fX2_wantedInArea_4_s RC area fu x2 x3).trans ((if_neg c6).trans ((bd1_e hk2).trans ((bd1_n ey_3).trans rfl)))))
  exact K_4 (((3 : Int32).toInt - (0 : Int32).toInt).toNat + 1) 0 0 _ _ ls hP hD hS (lv_sub hl [2, 3, 1, 0] rfl) (Nat.lt_succ_self _) rfl

/-- the loop of X2_wantedInAll at 4 -/
def fX2_wantedInAll_4 (RC : Nat → Int32) : Nat → Int32 → Int32 → Int32
  | 0, _, _ => default
  | fu + 1, x1, x2 =>
    (if (4 : Int32) ≤ x2 then x1 else bd1 (fX2_wantedInArea RC x2) (fun (r_2 : Int32) => bd1 (x1 + r_2) (fun (y_3 : Int32) => fX2_wantedInAll_4 RC fu y_3 (x2 + 1))))
theorem fX2_wantedInAll_4_s (RC : Nat → Int32) (fu : Nat) (x1 : Int32) (x2 : Int32) : fX2_wantedInAll_4 RC (fu + 1) x1 x2 =
    (if (4 : Int32) ≤ x2 then x1 else bd1 (fX2_wantedInArea RC x2) (fun (r_2 : Int32) => bd1 (x1 + r_2) (fun (y_3 : Int32) => fX2_wantedInAll_4 RC fu y_3 (x2 + 1)))) := rfl

/-- the value of X2_wantedInAll, path by path -/
def fX2_wantedInAll (RC : Nat → Int32) : Int32 :=
  fX2_wantedInAll_4 RC (((4 : Int32).toInt - (0 : Int32).toInt).toNat + 1) 0 0

set_option maxHeartbeats 4000000 in
set_option maxRecDepth 100000 in
/-- X2_wantedInAll -/
theorem mX2_wantedInAll (l : Launch) (D : va_G) (cI cC cS : ClassId) (sz : Nat) (o : Nat) (h : Nat) (t1 : Nat) (t2 : Nat) (t3 : Nat) (a1 : Nat) (a2 : Nat) (a3 : Nat) (RA : Nat → Int32) (RI : Nat → Int32) (RC : Nat → Int32) (na : Int32) (ni : Int32) (dy : Int32) (vl : Int32) (db : Int32)  : Met l yX2_wantedInAll wsX2_wantedInAll ({ frames := 3, cells := 0, slots := 0, locals := 70 } : Jvm.Room) (va_Pc [.ref o] (wPre D (TY cI cC cS) [(o, .inr (1, [.ref h])), (h, .inr (4, [.ref t1, .ref t2, .ref t3, .int na, .int ni, .int dy, .int vl, .int db])), (t1, .inr (5, [.ref a1, .int 10])), (t2, .inr (5, [.ref a2, .int 6])), (t3, .inr (5, [.ref a3, .int 3])), (a1, .inl (cI, 240, .inl RA)), (a2, .inl (cI, 30, .inl RI)), (a3, .inl (cI, 36, .inl RC))] sz wN)) (qI D (TY cI cC cS) (fun (r : Int32) (u : Int32) => fX2_wantedInAll RC = u ∧ r = u) (fun u => [(o, .inr (1, [.ref h])), (h, .inr (4, [.ref t1, .ref t2, .ref t3, .int na, .int ni, .int dy, .int vl, .int db])), (t1, .inr (5, [.ref a1, .int 10])), (t2, .inr (5, [.ref a2, .int 6])), (t3, .inr (5, [.ref a3, .int 3])), (a1, .inl (cI, 240, .inl RA)), (a2, .inl (cI, 30, .inl RI)), (a3, .inl (cI, 36, .inl RC))]) (va_A [(o, .inr (1, [.ref h])), (h, .inr (4, [.ref t1, .ref t2, .ref t3, .int na, .int ni, .int dy, .int vl, .int db])), (t1, .inr (5, [.ref a1, .int 10])), (t2, .inr (5, [.ref a2, .int 6])), (t3, .inr (5, [.ref a3, .int 3])), (a1, .inl (cI, 240, .inl RA)), (a2, .inl (cI, 30, .inl RI)), (a3, .inl (cI, 36, .inl RC))] sz)) 0 0 (va_A [(o, .inr (1, [.ref h])), (h, .inr (4, [.ref t1, .ref t2, .ref t3, .int na, .int ni, .int dy, .int vl, .int db])), (t1, .inr (5, [.ref a1, .int 10])), (t2, .inr (5, [.ref a2, .int 6])), (t3, .inr (5, [.ref a3, .int 3])), (a1, .inl (cI, 240, .inl RA)), (a2, .inl (cI, 30, .inl RI)), (a3, .inl (cI, 36, .inl RC))] sz) := by
  refine mkM (fun Fr => qI D (TY cI cC cS) (fun (r : Int32) (u : Int32) => fX2_wantedInAll RC = u ∧ r = u) (fun u => [(o, .inr (1, [.ref h])), (h, .inr (4, [.ref t1, .ref t2, .ref t3, .int na, .int ni, .int dy, .int vl, .int db])), (t1, .inr (5, [.ref a1, .int 10])), (t2, .inr (5, [.ref a2, .int 6])), (t3, .inr (5, [.ref a3, .int 3])), (a1, .inl (cI, 240, .inl RA)), (a2, .inl (cI, 30, .inl RI)), (a3, .inl (cI, 36, .inl RC))]) Fr) (cc := cX2_wantedInAll) (maxL := 3) (ret := (some .int)) (own := RX2) (lv := [(0, .ref o)]) (by decide) rfl rfl (Nat.le_of_ble_eq_true rfl) rfl ?_
  intro p e s m below meth c Fr ls hx hb hr hts hown hml hlk hin hP hK hD hS hA hAe hsz hX hl
  refine lv_iconst (v := 0) hx hb dX2_wantedInAll_0 (by decide) ?_
  refine lv_istore_n (lv' := [(1, .int 0), (0, .ref o)]) hx hb dX2_wantedInAll_1 rfl hl (by decide) rfl (fun ls hl => ?_)
  refine lv_iconst (v := 0) hx hb dX2_wantedInAll_2 (by decide) ?_
  refine lv_istore_n (lv' := [(2, .int 0), (1, .int 0), (0, .ref o)]) hx hb dX2_wantedInAll_3 rfl hl (by decide) rfl (fun ls hl => ?_)
  have K_4 : ∀ (fu : Nat) (x1 : Int32) (x2 : Int32) (H : Heap) (locs : List Loc) (ls : Array Slot), va_P D vwCl [(o, .inr (1, [.ref h])), (h, .inr (4, [.ref t1, .ref t2, .ref t3, .int na, .int ni, .int dy, .int vl, .int db])), (t1, .inr (5, [.ref a1, .int 10])), (t2, .inr (5, [.ref a2, .int 6])), (t3, .inr (5, [.ref a3, .int 3])), (a1, .inl (cI, 240, .inl RA)), (a2, .inl (cI, 30, .inl RI)), (a3, .inl (cI, 36, .inl RC))] H → va_D Fr [(o, .inr (1, [.ref h])), (h, .inr (4, [.ref t1, .ref t2, .ref t3, .int na, .int ni, .int dy, .int vl, .int db])), (t1, .inr (5, [.ref a1, .int 10])), (t2, .inr (5, [.ref a2, .int 6])), (t3, .inr (5, [.ref a3, .int 3])), (a1, .inl (cI, 240, .inl RA)), (a2, .inl (cI, 30, .inl RI)), (a3, .inl (cI, 36, .inl RC))] → va_S Fr s.heap H locs → lv_has ls 3 [(0, .ref o), (1, .int x1), (2, .int x2)] → ((4 : Int32).toInt - x2.toInt).toNat < fu → fX2_wantedInAll RC = fX2_wantedInAll_4 RC fu x1 x2 → W p l e (headSpec wsX2_wantedInAll ({ frames := 3, cells := 0, slots := 0, locals := 70 } : Jvm.Room)).room s m ([.ref o] : List Value).toArray below meth c H locs 0 0 (MQ below (qI D (TY cI cC cS) (fun (r : Int32) (u : Int32) => fX2_wantedInAll RC = u ∧ r = u) (fun u => [(o, .inr (1, [.ref h])), (h, .inr (4, [.ref t1, .ref t2, .ref t3, .int na, .int ni, .int dy, .int vl, .int db])), (t1, .inr (5, [.ref a1, .int 10])), (t2, .inr (5, [.ref a2, .int 6])), (t3, .inr (5, [.ref a3, .int 3])), (a1, .inl (cI, 240, .inl RA)), (a2, .inl (cI, 30, .inl RI)), (a3, .inl (cI, 36, .inl RC))]) Fr) ([.ref o] : List Value).toArray s 0 0 Fr) (F0 m 4 ls []) := by
    intro fu
    induction fu with
    | zero => intros; exact absurd (by assumption) (Nat.not_lt_zero _)
    | succ fu ih_4 =>
      intro x1 x2 H locs ls hP hD hS hl  hm_4 E_4
      refine lv_iload_n hx hb dX2_wantedInAll_4 rfl (lv_at hl 2 rfl) ?_
      refine lv_iconst (v := 4) hx hb dX2_wantedInAll_5 (by decide) ?_
      refine lv_icmp_ge (tgt := 23) hx hb dX2_wantedInAll_6 (by decide) (fun c6 => ?_) (fun c6 => ?_)
      · refine lv_iload_n hx hb dX2_wantedInAll_23 rfl (lv_at hl 1 rfl) ?_
        exact endI hx hb hr hlk hP hK hD hS dX2_wantedInAll_24 x1 rfl ⟨(E_4).trans ((fX2_wantedInAll_4_s RC fu x1 x2).trans ((if_pos c6).trans rfl)), rfl⟩
      · refine lv_iload_n hx hb dX2_wantedInAll_9 rfl (lv_at hl 1 rfl) ?_
        refine lv_aload_n hx hb dX2_wantedInAll_10 rfl (lv_at hl 0 rfl) ?_
        refine lv_iload_n hx hb dX2_wantedInAll_11 rfl (lv_at hl 2 rfl) ?_
        refine callVi (As := [.int x2]) (rest := [.int x1]) (mX2_wantedInArea l D cI cC cS _ o h t1 t2 t3 a1 a2 a3 RA RI RC na ni dy vl db x2) ⟨hx, hb, hml, hown, hts⟩ (cwV 1 hts gX2_wantedInAll_X2_wantedInArea rfl rfl rfl (by decide +kernel) ⟨Nat.le_of_ble_eq_true rfl, Nat.le_of_ble_eq_true rfl⟩) wN_blind (fun _ _ hW => wN_warm hW hX) hP hK hD hS hA hl [0, 1, 2, 3, 4, 5, 6, 7] rfl rfl 0 1 rfl rfl rfl rfl rfl (Nat.le_of_ble_eq_true rfl) dX2_wantedInAll_12 ⟨Nat.zero_le _, Nat.zero_le _⟩ (fun _ => rfl) (fun u_ H locs hk2 hP hD hS => ?_)
        obtain ⟨r_2, e_r_2⟩ : ∃ z, z = u_ := ⟨_, rfl⟩
        subst e_r_2
        have hP : va_P D vwCl [(o, .inr (1, [.ref h])), (h, .inr (4, [.ref t1, .ref t2, .ref t3, .int na, .int ni, .int dy, .int vl, .int db])), (t1, .inr (5, [.ref a1, .int 10])), (t2, .inr (5, [.ref a2, .int 6])), (t3, .inr (5, [.ref a3, .int 3])), (a1, .inl (cI, 240, .inl RA)), (a2, .inl (cI, 30, .inl RI)), (a3, .inl (cI, 36, .inl RC))] H := hP
        have hD : va_D Fr [(o, .inr (1, [.ref h])), (h, .inr (4, [.ref t1, .ref t2, .ref t3, .int na, .int ni, .int dy, .int vl, .int db])), (t1, .inr (5, [.ref a1, .int 10])), (t2, .inr (5, [.ref a2, .int 6])), (t3, .inr (5, [.ref a3, .int 3])), (a1, .inl (cI, 240, .inl RA)), (a2, .inl (cI, 30, .inl RI)), (a3, .inl (cI, 36, .inl RC))] := hD
        refine W.eq (g2 := F0 m 15 ls [.int r_2, .int x1]) rfl ?_
        refine lv_iadd hx hb dX2_wantedInAll_15 ?_
        refine lv_topi (fun y_3 ey_3 => ?_)
        refine lv_istore_n (lv' := [(1, .int y_3), (0, .ref o), (2, .int x2)]) hx hb dX2_wantedInAll_16 rfl hl (by decide) rfl (fun ls hl => ?_)
        refine lv_iinc (v := x2 + 1) (lv' := [(2, .int (x2 + 1)), (1, .int y_3), (0, .ref o)]) hx hb dX2_wantedInAll_17 hl (k := 2) rfl (by rfl) (by decide) rfl (fun ls hl => ?_)
        refine lv_goto (tgt := 4) hx hb dX2_wantedInAll_20 (by decide) ?_
        exact ih_4 y_3 (x2 + 1) _ _ ls hP hD hS (lv_sub hl [2, 1, 0] rfl) (Nat.lt_of_lt_of_le (lp_dec c6) (Nat.le_of_lt_succ hm_4)) ((E_4).trans ((fX2_wantedInAll_4_s RC fu x1 x2).trans ((if_neg c6).trans ((bd1_e hk2).trans ((bd1_n ey_3).trans rfl)))))
  exact K_4 (((4 : Int32).toInt - (0 : Int32).toInt).toNat + 1) 0 0 _ _ ls hP hD hS (lv_sub hl [2, 1, 0] rfl) (Nat.lt_succ_self _) rfl

/-- the loop of X2_callsNeeded at 4 -/
def fX2_callsNeeded_4 (RA : Nat → Int32) (na : Int32) (vl : Int32) : Nat → Int32 → Int32 → Int32
  | 0, _, _ => default
  | fu + 1, x1, x2 =>
    (if na ≤ x2 then x1 else bd1 (fX5_isOpen RA x2) (fun (r_4 : Bool) => (if r_4 = true then bd1 (fX5_ofAddress RA x2 3) (fun (r_8 : Int32) => bd1 (x1 + (if (1 : Int32) < vl - r_8 then vl - r_8 else 1)) (fun (y_9 : Int32) => fX2_callsNeeded_4 RA na vl fu y_9 (x2 + 1))) else fX2_callsNeeded_4 RA na vl fu x1 (x2 + 1))))
theorem fX2_callsNeeded_4_s (RA : Nat → Int32) (na : Int32) (vl : Int32) (fu : Nat) (x1 : Int32) (x2 : Int32) : fX2_callsNeeded_4 RA na vl (fu + 1) x1 x2 =
    (if na ≤ x2 then x1 else bd1 (fX5_isOpen RA x2) (fun (r_4 : Bool) => (if r_4 = true then bd1 (fX5_ofAddress RA x2 3) (fun (r_8 : Int32) => bd1 (x1 + (if (1 : Int32) < vl - r_8 then vl - r_8 else 1)) (fun (y_9 : Int32) => fX2_callsNeeded_4 RA na vl fu y_9 (x2 + 1))) else fX2_callsNeeded_4 RA na vl fu x1 (x2 + 1)))) := rfl

/-- the value of X2_callsNeeded, path by path -/
def fX2_callsNeeded (RA : Nat → Int32) (na : Int32) (vl : Int32) : Int32 :=
  fX2_callsNeeded_4 RA na vl ((na.toInt - (0 : Int32).toInt).toNat + 1) 0 0

set_option maxHeartbeats 4000000 in
set_option maxRecDepth 100000 in
/-- X2_callsNeeded -/
theorem mX2_callsNeeded (l : Launch) (D : va_G) (cI cC cS : ClassId) (sz : Nat) (o : Nat) (h : Nat) (t1 : Nat) (t2 : Nat) (t3 : Nat) (a1 : Nat) (a2 : Nat) (a3 : Nat) (RA : Nat → Int32) (RI : Nat → Int32) (RC : Nat → Int32) (na : Int32) (ni : Int32) (dy : Int32) (vl : Int32) (db : Int32)  : Met l yX2_callsNeeded wsX2_callsNeeded ({ frames := 2, cells := 0, slots := 0, locals := 45 } : Jvm.Room) (va_Pc [.ref o] (wPre D (TY cI cC cS) [(o, .inr (1, [.ref h])), (h, .inr (4, [.ref t1, .ref t2, .ref t3, .int na, .int ni, .int dy, .int vl, .int db])), (t1, .inr (5, [.ref a1, .int 10])), (t2, .inr (5, [.ref a2, .int 6])), (t3, .inr (5, [.ref a3, .int 3])), (a1, .inl (cI, 240, .inl RA)), (a2, .inl (cI, 30, .inl RI)), (a3, .inl (cI, 36, .inl RC))] sz wN)) (qI D (TY cI cC cS) (fun (r : Int32) (u : Int32) => fX2_callsNeeded RA na vl = u ∧ r = u) (fun u => [(o, .inr (1, [.ref h])), (h, .inr (4, [.ref t1, .ref t2, .ref t3, .int na, .int ni, .int dy, .int vl, .int db])), (t1, .inr (5, [.ref a1, .int 10])), (t2, .inr (5, [.ref a2, .int 6])), (t3, .inr (5, [.ref a3, .int 3])), (a1, .inl (cI, 240, .inl RA)), (a2, .inl (cI, 30, .inl RI)), (a3, .inl (cI, 36, .inl RC))]) (va_A [(o, .inr (1, [.ref h])), (h, .inr (4, [.ref t1, .ref t2, .ref t3, .int na, .int ni, .int dy, .int vl, .int db])), (t1, .inr (5, [.ref a1, .int 10])), (t2, .inr (5, [.ref a2, .int 6])), (t3, .inr (5, [.ref a3, .int 3])), (a1, .inl (cI, 240, .inl RA)), (a2, .inl (cI, 30, .inl RI)), (a3, .inl (cI, 36, .inl RC))] sz)) 0 0 (va_A [(o, .inr (1, [.ref h])), (h, .inr (4, [.ref t1, .ref t2, .ref t3, .int na, .int ni, .int dy, .int vl, .int db])), (t1, .inr (5, [.ref a1, .int 10])), (t2, .inr (5, [.ref a2, .int 6])), (t3, .inr (5, [.ref a3, .int 3])), (a1, .inl (cI, 240, .inl RA)), (a2, .inl (cI, 30, .inl RI)), (a3, .inl (cI, 36, .inl RC))] sz) := by
  refine mkM (fun Fr => qI D (TY cI cC cS) (fun (r : Int32) (u : Int32) => fX2_callsNeeded RA na vl = u ∧ r = u) (fun u => [(o, .inr (1, [.ref h])), (h, .inr (4, [.ref t1, .ref t2, .ref t3, .int na, .int ni, .int dy, .int vl, .int db])), (t1, .inr (5, [.ref a1, .int 10])), (t2, .inr (5, [.ref a2, .int 6])), (t3, .inr (5, [.ref a3, .int 3])), (a1, .inl (cI, 240, .inl RA)), (a2, .inl (cI, 30, .inl RI)), (a3, .inl (cI, 36, .inl RC))]) Fr) (cc := cX2_callsNeeded) (maxL := 3) (ret := (some .int)) (own := RX2) (lv := [(0, .ref o)]) (by decide) rfl rfl (Nat.le_of_ble_eq_true rfl) rfl ?_
  intro p e s m below meth c Fr ls hx hb hr hts hown hml hlk hin hP hK hD hS hA hAe hsz hX hl
  have w_1 := hts (.fieldLink RX2 9 "FieldQuotas$Overview" "survey" "LFieldQuotas$Survey;") (List.mem_of_getElem? (i := 1) rfl)
  have w_2 := sub_r (big := wsX2_callsNeeded) (u_ws RX2 TX2 1) [33] rfl
  have w_3 := hts (.methodLink RX2 102 Lib.Math.max.name) (List.mem_of_getElem? (i := 2) rfl)
  have w_4 := hts (.static Lib.Math.max.name) (List.mem_of_getElem? (i := 3) rfl)
  have w_5 := hts (.initialized "java/lang/Math") (List.mem_of_getElem? (i := 4) rfl)
  have w_6 := hts (.code Lib.Math.max.name Lib.Math.max.code 2 (some .int)) (List.mem_of_getElem? (i := 5) rfl)
  refine lv_iconst (v := 0) hx hb dX2_callsNeeded_0 (by decide) ?_
  refine lv_istore_n (lv' := [(1, .int 0), (0, .ref o)]) hx hb dX2_callsNeeded_1 rfl hl (by decide) rfl (fun ls hl => ?_)
  refine lv_iconst (v := 0) hx hb dX2_callsNeeded_2 (by decide) ?_
  refine lv_istore_n (lv' := [(2, .int 0), (1, .int 0), (0, .ref o)]) hx hb dX2_callsNeeded_3 rfl hl (by decide) rfl (fun ls hl => ?_)
  have K_4 : ∀ (fu : Nat) (x1 : Int32) (x2 : Int32) (H : Heap) (locs : List Loc) (ls : Array Slot), va_P D vwCl [(o, .inr (1, [.ref h])), (h, .inr (4, [.ref t1, .ref t2, .ref t3, .int na, .int ni, .int dy, .int vl, .int db])), (t1, .inr (5, [.ref a1, .int 10])), (t2, .inr (5, [.ref a2, .int 6])), (t3, .inr (5, [.ref a3, .int 3])), (a1, .inl (cI, 240, .inl RA)), (a2, .inl (cI, 30, .inl RI)), (a3, .inl (cI, 36, .inl RC))] H → va_D Fr [(o, .inr (1, [.ref h])), (h, .inr (4, [.ref t1, .ref t2, .ref t3, .int na, .int ni, .int dy, .int vl, .int db])), (t1, .inr (5, [.ref a1, .int 10])), (t2, .inr (5, [.ref a2, .int 6])), (t3, .inr (5, [.ref a3, .int 3])), (a1, .inl (cI, 240, .inl RA)), (a2, .inl (cI, 30, .inl RI)), (a3, .inl (cI, 36, .inl RC))] → va_S Fr s.heap H locs → lv_has ls 3 [(0, .ref o), (1, .int x1), (2, .int x2)] → (na.toInt - x2.toInt).toNat < fu → fX2_callsNeeded RA na vl = fX2_callsNeeded_4 RA na vl fu x1 x2 → W p l e (headSpec wsX2_callsNeeded ({ frames := 2, cells := 0, slots := 0, locals := 45 } : Jvm.Room)).room s m ([.ref o] : List Value).toArray below meth c H locs 0 0 (MQ below (qI D (TY cI cC cS) (fun (r : Int32) (u : Int32) => fX2_callsNeeded RA na vl = u ∧ r = u) (fun u => [(o, .inr (1, [.ref h])), (h, .inr (4, [.ref t1, .ref t2, .ref t3, .int na, .int ni, .int dy, .int vl, .int db])), (t1, .inr (5, [.ref a1, .int 10])), (t2, .inr (5, [.ref a2, .int 6])), (t3, .inr (5, [.ref a3, .int 3])), (a1, .inl (cI, 240, .inl RA)), (a2, .inl (cI, 30, .inl RI)), (a3, .inl (cI, 36, .inl RC))]) Fr) ([.ref o] : List Value).toArray s 0 0 Fr) (F0 m 4 ls []) := by
    intro fu
    induction fu with
    | zero => intros; exact absurd (by assumption) (Nat.not_lt_zero _)
    | succ fu ih_4 =>
      intro x1 x2 H locs ls hP hD hS hl  hm_4 E_4
      refine lv_iload_n hx hb dX2_callsNeeded_4 rfl (lv_at hl 2 rfl) ?_
      refine lv_aload_n hx hb dX2_callsNeeded_5 rfl (lv_at hl 0 rfl) ?_
      refine va_get (D := D) (ci := 1) (C := RX2) (T := TX2) (N := 1) hx hb hts w_2 hown hK hP 0 rfl rfl 0 (by decide) w_1 (fun _ h9 => h9) rfl dX2_callsNeeded_6 ?_
      refine callVi (As := []) (rest := [.int x2]) (mX5_addressCount l D cI cC cS _ h t1 t2 t3 a1 a2 a3 RA RI RC na ni dy vl db) ⟨hx, hb, hml, hown, hts⟩ (cwV 0 hts gX2_callsNeeded_X5_addressCount rfl rfl rfl (by decide +kernel) ⟨Nat.le_of_ble_eq_true rfl, Nat.le_of_ble_eq_true rfl⟩) wN_blind (fun _ _ hW => wN_warm hW hX) hP hK hD hS hA hl [1, 2, 3, 4, 5, 6, 7] rfl rfl 0 4 rfl rfl rfl rfl rfl (Nat.le_of_ble_eq_true rfl) dX2_callsNeeded_9 ⟨Nat.zero_le _, Nat.zero_le _⟩ (fun _ => rfl) (fun u_ H locs hk2 hP hD hS => ?_)
      obtain ⟨r_2, e_r_2⟩ : ∃ z, z = u_ := ⟨_, rfl⟩
      subst e_r_2
      have hP : va_P D vwCl [(o, .inr (1, [.ref h])), (h, .inr (4, [.ref t1, .ref t2, .ref t3, .int na, .int ni, .int dy, .int vl, .int db])), (t1, .inr (5, [.ref a1, .int 10])), (t2, .inr (5, [.ref a2, .int 6])), (t3, .inr (5, [.ref a3, .int 3])), (a1, .inl (cI, 240, .inl RA)), (a2, .inl (cI, 30, .inl RI)), (a3, .inl (cI, 36, .inl RC))] H := hP
      have hD : va_D Fr [(o, .inr (1, [.ref h])), (h, .inr (4, [.ref t1, .ref t2, .ref t3, .int na, .int ni, .int dy, .int vl, .int db])), (t1, .inr (5, [.ref a1, .int 10])), (t2, .inr (5, [.ref a2, .int 6])), (t3, .inr (5, [.ref a3, .int 3])), (a1, .inl (cI, 240, .inl RA)), (a2, .inl (cI, 30, .inl RI)), (a3, .inl (cI, 36, .inl RC))] := hD
      have hk2 : na = r_2 := hk2
      subst hk2
      refine W.eq (g2 := F0 m 12 ls [.int na, .int x2]) rfl ?_
      refine lv_icmp_ge (tgt := 56) hx hb dX2_callsNeeded_12 (by decide) (fun c12 => ?_) (fun c12 => ?_)
      · refine lv_iload_n hx hb dX2_callsNeeded_56 rfl (lv_at hl 1 rfl) ?_
        exact endI hx hb hr hlk hP hK hD hS dX2_callsNeeded_57 x1 rfl ⟨(E_4).trans ((fX2_callsNeeded_4_s RA na vl fu x1 x2).trans ((if_pos c12).trans rfl)), rfl⟩
      · refine lv_aload_n hx hb dX2_callsNeeded_15 rfl (lv_at hl 0 rfl) ?_
        refine va_get (D := D) (ci := 1) (C := RX2) (T := TX2) (N := 1) hx hb hts w_2 hown hK hP 0 rfl rfl 0 (by decide) w_1 (fun _ h9 => h9) rfl dX2_callsNeeded_16 ?_
        refine lv_iload_n hx hb dX2_callsNeeded_19 rfl (lv_at hl 2 rfl) ?_
        refine callVi (As := [.int x2]) (rest := []) (mX5_isOpen l D cI cC cS _ h t1 t2 t3 a1 a2 a3 RA RI RC na ni dy vl db x2) ⟨hx, hb, hml, hown, hts⟩ (cwV 1 hts gX2_callsNeeded_X5_isOpen rfl rfl rfl (by decide +kernel) ⟨Nat.le_of_ble_eq_true rfl, Nat.le_of_ble_eq_true rfl⟩) wN_blind (fun _ _ hW => wN_warm hW hX) hP hK hD hS hA hl [1, 2, 3, 4, 5, 6, 7] rfl rfl 0 4 rfl rfl rfl rfl rfl (Nat.le_of_ble_eq_true rfl) dX2_callsNeeded_20 ⟨Nat.zero_le _, Nat.zero_le _⟩ (fun _ => rfl) (fun u_ H locs hk4 hP hD hS => ?_)
        obtain ⟨r_4, e_r_4⟩ : ∃ z, z = u_ := ⟨_, rfl⟩
        subst e_r_4
        have hP : va_P D vwCl [(o, .inr (1, [.ref h])), (h, .inr (4, [.ref t1, .ref t2, .ref t3, .int na, .int ni, .int dy, .int vl, .int db])), (t1, .inr (5, [.ref a1, .int 10])), (t2, .inr (5, [.ref a2, .int 6])), (t3, .inr (5, [.ref a3, .int 3])), (a1, .inl (cI, 240, .inl RA)), (a2, .inl (cI, 30, .inl RI)), (a3, .inl (cI, 36, .inl RC))] H := hP
        have hD : va_D Fr [(o, .inr (1, [.ref h])), (h, .inr (4, [.ref t1, .ref t2, .ref t3, .int na, .int ni, .int dy, .int vl, .int db])), (t1, .inr (5, [.ref a1, .int 10])), (t2, .inr (5, [.ref a2, .int 6])), (t3, .inr (5, [.ref a3, .int 3])), (a1, .inl (cI, 240, .inl RA)), (a2, .inl (cI, 30, .inl RI)), (a3, .inl (cI, 36, .inl RC))] := hD
        refine W.eq (g2 := F0 m 23 ls [.int (bi r_4)]) rfl ?_
        refine lv_if_eq (tgt := 50) hx hb dX2_callsNeeded_23 (by decide) (fun c23 => ?_) (fun c23 => ?_)
        · refine lv_iinc (v := x2 + 1) (lv' := [(2, .int (x2 + 1)), (0, .ref o), (1, .int x1)]) hx hb dX2_callsNeeded_50 hl (k := 2) rfl (by rfl) (by decide) rfl (fun ls hl => ?_)
          refine lv_goto (tgt := 4) hx hb dX2_callsNeeded_53 (by decide) ?_
          exact ih_4 x1 (x2 + 1) _ _ ls hP hD hS (lv_sub hl [1, 2, 0] rfl) (Nat.lt_of_lt_of_le (lp_dec c12) (Nat.le_of_lt_succ hm_4)) ((E_4).trans ((fX2_callsNeeded_4_s RA na vl fu x1 x2).trans ((if_neg c12).trans ((bd1_e hk4).trans ((if_neg (bi_z c23)).trans rfl)))))
        · refine lv_iload_n hx hb dX2_callsNeeded_26 rfl (lv_at hl 1 rfl) ?_
          refine lv_iconst (v := 1) hx hb dX2_callsNeeded_27 (by decide) ?_
          refine lv_aload_n hx hb dX2_callsNeeded_28 rfl (lv_at hl 0 rfl) ?_
          refine va_get (D := D) (ci := 1) (C := RX2) (T := TX2) (N := 1) hx hb hts w_2 hown hK hP 0 rfl rfl 0 (by decide) w_1 (fun _ h9 => h9) rfl dX2_callsNeeded_29 ?_
          refine callVi (As := []) (rest := [.int 1, .int x1]) (mX5_vainLimit l D cI cC cS _ h t1 t2 t3 a1 a2 a3 RA RI RC na ni dy vl db) ⟨hx, hb, hml, hown, hts⟩ (cwV 0 hts gX2_callsNeeded_X5_vainLimit rfl rfl rfl (by decide +kernel) ⟨Nat.le_of_ble_eq_true rfl, Nat.le_of_ble_eq_true rfl⟩) wN_blind (fun _ _ hW => wN_warm hW hX) hP hK hD hS hA hl [1, 2, 3, 4, 5, 6, 7] rfl rfl 0 4 rfl rfl rfl rfl rfl (Nat.le_of_ble_eq_true rfl) dX2_callsNeeded_32 ⟨Nat.zero_le _, Nat.zero_le _⟩ (fun _ => rfl) (fun u_ H locs hk6 hP hD hS => ?_)
          obtain ⟨r_6, e_r_6⟩ : ∃ z, z = u_ := ⟨_, rfl⟩
          subst e_r_6
          have hP : va_P D vwCl [(o, .inr (1, [.ref h])), (h, .inr (4, [.ref t1, .ref t2, .ref t3, .int na, .int ni, .int dy, .int vl, .int db])), (t1, .inr (5, [.ref a1, .int 10])), (t2, .inr (5, [.ref a2, .int 6])), (t3, .inr (5, [.ref a3, .int 3])), (a1, .inl (cI, 240, .inl RA)), (a2, .inl (cI, 30, .inl RI)), (a3, .inl (cI, 36, .inl RC))] H := hP
          have hD : va_D Fr [(o, .inr (1, [.ref h])), (h, .inr (4, [.ref t1, .ref t2, .ref t3, .int na, .int ni, .int dy, .int vl, .int db])), (t1, .inr (5, [.ref a1, .int 10])), (t2, .inr (5, [.ref a2, .int 6])), (t3, .inr (5, [.ref a3, .int 3])), (a1, .inl (cI, 240, .inl RA)), (a2, .inl (cI, 30, .inl RI)), (a3, .inl (cI, 36, .inl RC))] := hD
          have hk6 : vl = r_6 := hk6
          subst hk6
          refine W.eq (g2 := F0 m 35 ls [.int vl, .int 1, .int x1]) rfl ?_
          refine lv_aload_n hx hb dX2_callsNeeded_35 rfl (lv_at hl 0 rfl) ?_
          refine va_get (D := D) (ci := 1) (C := RX2) (T := TX2) (N := 1) hx hb hts w_2 hown hK hP 0 rfl rfl 0 (by decide) w_1 (fun _ h9 => h9) rfl dX2_callsNeeded_36 ?_
          refine lv_iload_n hx hb dX2_callsNeeded_39 rfl (lv_at hl 2 rfl) ?_
          refine lv_iconst (v := 3) hx hb dX2_callsNeeded_40 (by decide) ?_
          refine callVi (As := [.int x2, .int 3]) (rest := [.int vl, .int 1, .int x1]) (mX5_ofAddress l D cI cC cS _ h t1 t2 t3 a1 a2 a3 RA RI RC na ni dy vl db x2 3) ⟨hx, hb, hml, hown, hts⟩ (cwV 2 hts gX2_callsNeeded_X5_ofAddress rfl rfl rfl (by decide +kernel) ⟨Nat.le_of_ble_eq_true rfl, Nat.le_of_ble_eq_true rfl⟩) wN_blind (fun _ _ hW => wN_warm hW hX) hP hK hD hS hA hl [1, 2, 3, 4, 5, 6, 7] rfl rfl 0 4 rfl rfl rfl rfl rfl (Nat.le_of_ble_eq_true rfl) dX2_callsNeeded_41 ⟨Nat.zero_le _, Nat.zero_le _⟩ (fun _ => rfl) (fun u_ H locs hk8 hP hD hS => ?_)
          obtain ⟨r_8, e_r_8⟩ : ∃ z, z = u_ := ⟨_, rfl⟩
          subst e_r_8
          have hP : va_P D vwCl [(o, .inr (1, [.ref h])), (h, .inr (4, [.ref t1, .ref t2, .ref t3, .int na, .int ni, .int dy, .int vl, .int db])), (t1, .inr (5, [.ref a1, .int 10])), (t2, .inr (5, [.ref a2, .int 6])), (t3, .inr (5, [.ref a3, .int 3])), (a1, .inl (cI, 240, .inl RA)), (a2, .inl (cI, 30, .inl RI)), (a3, .inl (cI, 36, .inl RC))] H := hP
          have hD : va_D Fr [(o, .inr (1, [.ref h])), (h, .inr (4, [.ref t1, .ref t2, .ref t3, .int na, .int ni, .int dy, .int vl, .int db])), (t1, .inr (5, [.ref a1, .int 10])), (t2, .inr (5, [.ref a2, .int 6])), (t3, .inr (5, [.ref a3, .int 3])), (a1, .inl (cI, 240, .inl RA)), (a2, .inl (cI, 30, .inl RI)), (a3, .inl (cI, 36, .inl RC))] := hD
          refine W.eq (g2 := F0 m 44 ls [.int r_8, .int vl, .int 1, .int x1]) rfl ?_
          refine lv_isub hx hb dX2_callsNeeded_44 ?_
          refine va_mmax hx hb (by rw [hml]; exact hl.1.symm) hown w_3 w_4 w_5 w_6 (Nat.le_of_ble_eq_true rfl) (Nat.le_of_ble_eq_true rfl) (Nat.zero_le _) (Nat.zero_le _) dX2_callsNeeded_45 ?_
          refine lv_iadd hx hb dX2_callsNeeded_48 ?_
          refine lv_topi (fun y_9 ey_9 => ?_)
          refine lv_istore_n (lv' := [(1, .int y_9), (0, .ref o), (2, .int x2)]) hx hb dX2_callsNeeded_49 rfl hl (by decide) rfl (fun ls hl => ?_)
          refine lv_iinc (v := x2 + 1) (lv' := [(2, .int (x2 + 1)), (1, .int y_9), (0, .ref o)]) hx hb dX2_callsNeeded_50 hl (k := 2) rfl (by rfl) (by decide) rfl (fun ls hl => ?_)
          refine lv_goto (tgt := 4) hx hb dX2_callsNeeded_53 (by decide) ?_
          exact ih_4 y_9 (x2 + 1) _ _ ls hP hD hS (lv_sub hl [2, 1, 0] rfl) (Nat.lt_of_lt_of_le (lp_dec c12) (Nat.le_of_lt_succ hm_4)) ((E_4).trans ((fX2_callsNeeded_4_s RA na vl fu x1 x2).trans ((if_neg c12).trans ((bd1_e hk4).trans ((if_pos (bi_o c23)).trans ((bd1_e hk8).trans ((bd1_n ey_9).trans rfl)))))))
  exact K_4 ((na.toInt - (0 : Int32).toInt).toNat + 1) 0 0 _ _ ls hP hD hS (lv_sub hl [2, 1, 0] rfl) (Nat.lt_succ_self _) rfl

/-- the value of X2_isOfKind, path by path -/
def fX2_isOfKind (RA : Nat → Int32) (dy : Int32) (address : Int32) (kind : Int32) : Bool :=
  (if kind = 5 then bd1 (fX5_isOpen RA address) (fun (r_2 : Bool) => (if r_2 = true then bd1 (fX5_hasMeeting RA address) (fun (r_4 : Bool) => (if r_4 = true then true else false)) else false)) else if kind = 6 then bd1 (fX5_isOpen RA address) (fun (r_6 : Bool) => (if r_6 = true then bd1 (fX5_isMeetingOver RA dy address) (fun (r_8 : Bool) => (if r_8 = true then true else false)) else false)) else if kind = 7 then bd1 (fX5_isOpen RA address) (fun (r_10 : Bool) => (if r_10 = true then bd1 (fX5_ofAddress RA address 2) (fun (r_12 : Int32) => (if r_12 = 0 then true else false)) else false)) else bd1 (fX5_ofAddress RA address 1) (fun (r_14 : Int32) => (if r_14 = kind then true else false)))

set_option maxHeartbeats 4000000 in
set_option maxRecDepth 100000 in
/-- X2_isOfKind -/
theorem mX2_isOfKind (l : Launch) (D : va_G) (cI cC cS : ClassId) (sz : Nat) (o : Nat) (h : Nat) (t1 : Nat) (t2 : Nat) (t3 : Nat) (a1 : Nat) (a2 : Nat) (a3 : Nat) (RA : Nat → Int32) (RI : Nat → Int32) (RC : Nat → Int32) (na : Int32) (ni : Int32) (dy : Int32) (vl : Int32) (db : Int32) (address : Int32) (kind : Int32)  : Met l yX2_isOfKind wsX2_isOfKind ({ frames := 2, cells := 0, slots := 0, locals := 45 } : Jvm.Room) (va_Pc [.ref o, .int address, .int kind] (wPre D (TY cI cC cS) [(o, .inr (1, [.ref h])), (h, .inr (4, [.ref t1, .ref t2, .ref t3, .int na, .int ni, .int dy, .int vl, .int db])), (t1, .inr (5, [.ref a1, .int 10])), (t2, .inr (5, [.ref a2, .int 6])), (t3, .inr (5, [.ref a3, .int 3])), (a1, .inl (cI, 240, .inl RA)), (a2, .inl (cI, 30, .inl RI)), (a3, .inl (cI, 36, .inl RC))] sz wN)) (qI D (TY cI cC cS) (fun (r : Int32) (u : Bool) => fX2_isOfKind RA dy address kind = u ∧ r = bi u) (fun u => [(o, .inr (1, [.ref h])), (h, .inr (4, [.ref t1, .ref t2, .ref t3, .int na, .int ni, .int dy, .int vl, .int db])), (t1, .inr (5, [.ref a1, .int 10])), (t2, .inr (5, [.ref a2, .int 6])), (t3, .inr (5, [.ref a3, .int 3])), (a1, .inl (cI, 240, .inl RA)), (a2, .inl (cI, 30, .inl RI)), (a3, .inl (cI, 36, .inl RC))]) (va_A [(o, .inr (1, [.ref h])), (h, .inr (4, [.ref t1, .ref t2, .ref t3, .int na, .int ni, .int dy, .int vl, .int db])), (t1, .inr (5, [.ref a1, .int 10])), (t2, .inr (5, [.ref a2, .int 6])), (t3, .inr (5, [.ref a3, .int 3])), (a1, .inl (cI, 240, .inl RA)), (a2, .inl (cI, 30, .inl RI)), (a3, .inl (cI, 36, .inl RC))] sz)) 0 0 (va_A [(o, .inr (1, [.ref h])), (h, .inr (4, [.ref t1, .ref t2, .ref t3, .int na, .int ni, .int dy, .int vl, .int db])), (t1, .inr (5, [.ref a1, .int 10])), (t2, .inr (5, [.ref a2, .int 6])), (t3, .inr (5, [.ref a3, .int 3])), (a1, .inl (cI, 240, .inl RA)), (a2, .inl (cI, 30, .inl RI)), (a3, .inl (cI, 36, .inl RC))] sz) := by
  refine mkM (fun Fr => qI D (TY cI cC cS) (fun (r : Int32) (u : Bool) => fX2_isOfKind RA dy address kind = u ∧ r = bi u) (fun u => [(o, .inr (1, [.ref h])), (h, .inr (4, [.ref t1, .ref t2, .ref t3, .int na, .int ni, .int dy, .int vl, .int db])), (t1, .inr (5, [.ref a1, .int 10])), (t2, .inr (5, [.ref a2, .int 6])), (t3, .inr (5, [.ref a3, .int 3])), (a1, .inl (cI, 240, .inl RA)), (a2, .inl (cI, 30, .inl RI)), (a3, .inl (cI, 36, .inl RC))]) Fr) (cc := cX2_isOfKind) (maxL := 3) (ret := (some .boolean)) (own := RX2) (lv := [(0, .ref o), (1, .int address), (2, .int kind)]) (by decide) rfl rfl (Nat.le_of_ble_eq_true rfl) rfl ?_
  intro p e s m below meth c Fr ls hx hb hr hts hown hml hlk hin hP hK hD hS hA hAe hsz hX hl
  have w_1 := hts (.fieldLink RX2 9 "FieldQuotas$Overview" "survey" "LFieldQuotas$Survey;") (List.mem_of_getElem? (i := 1) rfl)
  have w_2 := sub_r (big := wsX2_isOfKind) (u_ws RX2 TX2 1) [28] rfl
  refine lv_iload_n hx hb dX2_isOfKind_0 rfl (lv_at hl 2 rfl) ?_
  by_cases c1_5 : kind = 5
  · refine lv_tableIn (tgt := 28) hx hb dX2_isOfKind_1 (by rw [c1_5]; decide) (by rw [c1_5]; decide) (by rw [c1_5]; rfl) (by decide) ?_
    refine lv_aload_n hx hb dX2_isOfKind_28 rfl (lv_at hl 0 rfl) ?_
    refine va_get (D := D) (ci := 1) (C := RX2) (T := TX2) (N := 1) hx hb hts w_2 hown hK hP 0 rfl rfl 0 (by decide) w_1 (fun _ h9 => h9) rfl dX2_isOfKind_29 ?_
    refine lv_iload_n hx hb dX2_isOfKind_32 rfl (lv_at hl 1 rfl) ?_
    refine callVi (As := [.int address]) (rest := []) (mX5_isOpen l D cI cC cS _ h t1 t2 t3 a1 a2 a3 RA RI RC na ni dy vl db address) ⟨hx, hb, hml, hown, hts⟩ (cwV 1 hts gX2_isOfKind_X5_isOpen rfl rfl rfl (by decide +kernel) ⟨Nat.le_of_ble_eq_true rfl, Nat.le_of_ble_eq_true rfl⟩) wN_blind (fun _ _ hW => wN_warm hW hX) hP hK hD hS hA hl [1, 2, 3, 4, 5, 6, 7] rfl rfl 0 4 rfl rfl rfl rfl rfl (Nat.le_of_ble_eq_true rfl) dX2_isOfKind_33 ⟨Nat.zero_le _, Nat.zero_le _⟩ (fun _ => rfl) (fun u_ H locs hk2 hP hD hS => ?_)
    obtain ⟨r_2, e_r_2⟩ : ∃ z, z = u_ := ⟨_, rfl⟩
    subst e_r_2
    have hP : va_P D vwCl [(o, .inr (1, [.ref h])), (h, .inr (4, [.ref t1, .ref t2, .ref t3, .int na, .int ni, .int dy, .int vl, .int db])), (t1, .inr (5, [.ref a1, .int 10])), (t2, .inr (5, [.ref a2, .int 6])), (t3, .inr (5, [.ref a3, .int 3])), (a1, .inl (cI, 240, .inl RA)), (a2, .inl (cI, 30, .inl RI)), (a3, .inl (cI, 36, .inl RC))] H := hP
    have hD : va_D Fr [(o, .inr (1, [.ref h])), (h, .inr (4, [.ref t1, .ref t2, .ref t3, .int na, .int ni, .int dy, .int vl, .int db])), (t1, .inr (5, [.ref a1, .int 10])), (t2, .inr (5, [.ref a2, .int 6])), (t3, .inr (5, [.ref a3, .int 3])), (a1, .inl (cI, 240, .inl RA)), (a2, .inl (cI, 30, .inl RI)), (a3, .inl (cI, 36, .inl RC))] := hD
    refine W.eq (g2 := F0 m 36 ls [.int (bi r_2)]) rfl ?_
    refine lv_if_eq (tgt := 54) hx hb dX2_isOfKind_36 (by decide) (fun c36 => ?_) (fun c36 => ?_)
    · refine lv_iconst (v := 0) hx hb dX2_isOfKind_54 (by decide) ?_
      exact endZ hx hb hr hlk hP hK hD hS dX2_isOfKind_55 rfl false rfl ⟨(if_pos c1_5).trans ((bd1_e hk2).trans ((if_neg (bi_z c36)).trans rfl)), rfl⟩
    · refine lv_aload_n hx hb dX2_isOfKind_39 rfl (lv_at hl 0 rfl) ?_
      refine va_get (D := D) (ci := 1) (C := RX2) (T := TX2) (N := 1) hx hb hts w_2 hown hK hP 0 rfl rfl 0 (by decide) w_1 (fun _ h9 => h9) rfl dX2_isOfKind_40 ?_
      refine lv_iload_n hx hb dX2_isOfKind_43 rfl (lv_at hl 1 rfl) ?_
      refine callVi (As := [.int address]) (rest := []) (mX5_hasMeeting l D cI cC cS _ h t1 t2 t3 a1 a2 a3 RA RI RC na ni dy vl db address) ⟨hx, hb, hml, hown, hts⟩ (cwV 1 hts gX2_isOfKind_X5_hasMeeting rfl rfl rfl (by decide +kernel) ⟨Nat.le_of_ble_eq_true rfl, Nat.le_of_ble_eq_true rfl⟩) wN_blind (fun _ _ hW => wN_warm hW hX) hP hK hD hS hA hl [1, 2, 3, 4, 5, 6, 7] rfl rfl 0 4 rfl rfl rfl rfl rfl (Nat.le_of_ble_eq_true rfl) dX2_isOfKind_44 ⟨Nat.zero_le _, Nat.zero_le _⟩ (fun _ => rfl) (fun u_ H locs hk4 hP hD hS => ?_)
      obtain ⟨r_4, e_r_4⟩ : ∃ z, z = u_ := ⟨_, rfl⟩
      subst e_r_4
      have hP : va_P D vwCl [(o, .inr (1, [.ref h])), (h, .inr (4, [.ref t1, .ref t2, .ref t3, .int na, .int ni, .int dy, .int vl, .int db])), (t1, .inr (5, [.ref a1, .int 10])), (t2, .inr (5, [.ref a2, .int 6])), (t3, .inr (5, [.ref a3, .int 3])), (a1, .inl (cI, 240, .inl RA)), (a2, .inl (cI, 30, .inl RI)), (a3, .inl (cI, 36, .inl RC))] H := hP
      have hD : va_D Fr [(o, .inr (1, [.ref h])), (h, .inr (4, [.ref t1, .ref t2, .ref t3, .int na, .int ni, .int dy, .int vl, .int db])), (t1, .inr (5, [.ref a1, .int 10])), (t2, .inr (5, [.ref a2, .int 6])), (t3, .inr (5, [.ref a3, .int 3])), (a1, .inl (cI, 240, .inl RA)), (a2, .inl (cI, 30, .inl RI)), (a3, .inl (cI, 36, .inl RC))] := hD
      refine W.eq (g2 := F0 m 47 ls [.int (bi r_4)]) rfl ?_
      refine lv_if_eq (tgt := 54) hx hb dX2_isOfKind_47 (by decide) (fun c47 => ?_) (fun c47 => ?_)
      · refine lv_iconst (v := 0) hx hb dX2_isOfKind_54 (by decide) ?_
        exact endZ hx hb hr hlk hP hK hD hS dX2_isOfKind_55 rfl false rfl ⟨(if_pos c1_5).trans ((bd1_e hk2).trans ((if_pos (bi_o c36)).trans ((bd1_e hk4).trans ((if_neg (bi_z c47)).trans rfl)))), rfl⟩
      · refine lv_iconst (v := 1) hx hb dX2_isOfKind_50 (by decide) ?_
        refine lv_goto (tgt := 55) hx hb dX2_isOfKind_51 (by decide) ?_
        exact endZ hx hb hr hlk hP hK hD hS dX2_isOfKind_55 rfl true rfl ⟨(if_pos c1_5).trans ((bd1_e hk2).trans ((if_pos (bi_o c36)).trans ((bd1_e hk4).trans ((if_pos (bi_o c47)).trans rfl)))), rfl⟩
  by_cases c1_6 : kind = 6
  · refine lv_tableIn (tgt := 56) hx hb dX2_isOfKind_1 (by rw [c1_6]; decide) (by rw [c1_6]; decide) (by rw [c1_6]; rfl) (by decide) ?_
    refine lv_aload_n hx hb dX2_isOfKind_56 rfl (lv_at hl 0 rfl) ?_
    refine va_get (D := D) (ci := 1) (C := RX2) (T := TX2) (N := 1) hx hb hts w_2 hown hK hP 0 rfl rfl 0 (by decide) w_1 (fun _ h9 => h9) rfl dX2_isOfKind_57 ?_
    refine lv_iload_n hx hb dX2_isOfKind_60 rfl (lv_at hl 1 rfl) ?_
    refine callVi (As := [.int address]) (rest := []) (mX5_isOpen l D cI cC cS _ h t1 t2 t3 a1 a2 a3 RA RI RC na ni dy vl db address) ⟨hx, hb, hml, hown, hts⟩ (cwV 1 hts gX2_isOfKind_X5_isOpen rfl rfl rfl (by decide +kernel) ⟨Nat.le_of_ble_eq_true rfl, Nat.le_of_ble_eq_true rfl⟩) wN_blind (fun _ _ hW => wN_warm hW hX) hP hK hD hS hA hl [1, 2, 3, 4, 5, 6, 7] rfl rfl 0 4 rfl rfl rfl rfl rfl (Nat.le_of_ble_eq_true rfl) dX2_isOfKind_61 ⟨Nat.zero_le _, Nat.zero_le _⟩ (fun _ => rfl) (fun u_ H locs hk6 hP hD hS => ?_)
    obtain ⟨r_6, e_r_6⟩ : ∃ z, z = u_ := ⟨_, rfl⟩
    subst e_r_6
    have hP : va_P D vwCl [(o, .inr (1, [.ref h])), (h, .inr (4, [.ref t1, .ref t2, .ref t3, .int na, .int ni, .int dy, .int vl, .int db])), (t1, .inr (5, [.ref a1, .int 10])), (t2, .inr (5, [.ref a2, .int 6])), (t3, .inr (5, [.ref a3, .int 3])), (a1, .inl (cI, 240, .inl RA)), (a2, .inl (cI, 30, .inl RI)), (a3, .inl (cI, 36, .inl RC))] H := hP
    have hD : va_D Fr [(o, .inr (1, [.ref h])), (h, .inr (4, [.ref t1, .ref t2, .ref t3, .int na, .int ni, .int dy, .int vl, .int db])), (t1, .inr (5, [.ref a1, .int 10])), (t2, .inr (5, [.ref a2, .int 6])), (t3, .inr (5, [.ref a3, .int 3])), (a1, .inl (cI, 240, .inl RA)), (a2, .inl (cI, 30, .inl RI)), (a3, .inl (cI, 36, .inl RC))] := hD
    refine W.eq (g2 := F0 m 64 ls [.int (bi r_6)]) rfl ?_
    refine lv_if_eq (tgt := 82) hx hb dX2_isOfKind_64 (by decide) (fun c64 => ?_) (fun c64 => ?_)
    · refine lv_iconst (v := 0) hx hb dX2_isOfKind_82 (by decide) ?_
      exact endZ hx hb hr hlk hP hK hD hS dX2_isOfKind_83 rfl false rfl ⟨(if_neg c1_5).trans ((if_pos c1_6).trans ((bd1_e hk6).trans ((if_neg (bi_z c64)).trans rfl))), rfl⟩
    · refine lv_aload_n hx hb dX2_isOfKind_67 rfl (lv_at hl 0 rfl) ?_
      refine va_get (D := D) (ci := 1) (C := RX2) (T := TX2) (N := 1) hx hb hts w_2 hown hK hP 0 rfl rfl 0 (by decide) w_1 (fun _ h9 => h9) rfl dX2_isOfKind_68 ?_
      refine lv_iload_n hx hb dX2_isOfKind_71 rfl (lv_at hl 1 rfl) ?_
      refine callVi (As := [.int address]) (rest := []) (mX5_isMeetingOver l D cI cC cS _ h t1 t2 t3 a1 a2 a3 RA RI RC na ni dy vl db address) ⟨hx, hb, hml, hown, hts⟩ (cwV 1 hts gX2_isOfKind_X5_isMeetingOver rfl rfl rfl (by decide +kernel) ⟨Nat.le_of_ble_eq_true rfl, Nat.le_of_ble_eq_true rfl⟩) wN_blind (fun _ _ hW => wN_warm hW hX) hP hK hD hS hA hl [1, 2, 3, 4, 5, 6, 7] rfl rfl 0 4 rfl rfl rfl rfl rfl (Nat.le_of_ble_eq_true rfl) dX2_isOfKind_72 ⟨Nat.zero_le _, Nat.zero_le _⟩ (fun _ => rfl) (fun u_ H locs hk8 hP hD hS => ?_)
      obtain ⟨r_8, e_r_8⟩ : ∃ z, z = u_ := ⟨_, rfl⟩
      subst e_r_8
      have hP : va_P D vwCl [(o, .inr (1, [.ref h])), (h, .inr (4, [.ref t1, .ref t2, .ref t3, .int na, .int ni, .int dy, .int vl, .int db])), (t1, .inr (5, [.ref a1, .int 10])), (t2, .inr (5, [.ref a2, .int 6])), (t3, .inr (5, [.ref a3, .int 3])), (a1, .inl (cI, 240, .inl RA)), (a2, .inl (cI, 30, .inl RI)), (a3, .inl (cI, 36, .inl RC))] H := hP
      have hD : va_D Fr [(o, .inr (1, [.ref h])), (h, .inr (4, [.ref t1, .ref t2, .ref t3, .int na, .int ni, .int dy, .int vl, .int db])), (t1, .inr (5, [.ref a1, .int 10])), (t2, .inr (5, [.ref a2, .int 6])), (t3, .inr (5, [.ref a3, .int 3])), (a1, .inl (cI, 240, .inl RA)), (a2, .inl (cI, 30, .inl RI)), (a3, .inl (cI, 36, .inl RC))] := hD
      refine W.eq (g2 := F0 m 75 ls [.int (bi r_8)]) rfl ?_
      refine lv_if_eq (tgt := 82) hx hb dX2_isOfKind_75 (by decide) (fun c75 => ?_) (fun c75 => ?_)
      · refine lv_iconst (v := 0) hx hb dX2_isOfKind_82 (by decide) ?_
        exact endZ hx hb hr hlk hP hK hD hS dX2_isOfKind_83 rfl false rfl ⟨(if_neg c1_5).trans ((if_pos c1_6).trans ((bd1_e hk6).trans ((if_pos (bi_o c64)).trans ((bd1_e hk8).trans ((if_neg (bi_z c75)).trans rfl))))), rfl⟩
      · refine lv_iconst (v := 1) hx hb dX2_isOfKind_78 (by decide) ?_
        refine lv_goto (tgt := 83) hx hb dX2_isOfKind_79 (by decide) ?_
        exact endZ hx hb hr hlk hP hK hD hS dX2_isOfKind_83 rfl true rfl ⟨(if_neg c1_5).trans ((if_pos c1_6).trans ((bd1_e hk6).trans ((if_pos (bi_o c64)).trans ((bd1_e hk8).trans ((if_pos (bi_o c75)).trans rfl))))), rfl⟩
  by_cases c1_7 : kind = 7
  · refine lv_tableIn (tgt := 84) hx hb dX2_isOfKind_1 (by rw [c1_7]; decide) (by rw [c1_7]; decide) (by rw [c1_7]; rfl) (by decide) ?_
    refine lv_aload_n hx hb dX2_isOfKind_84 rfl (lv_at hl 0 rfl) ?_
    refine va_get (D := D) (ci := 1) (C := RX2) (T := TX2) (N := 1) hx hb hts w_2 hown hK hP 0 rfl rfl 0 (by decide) w_1 (fun _ h9 => h9) rfl dX2_isOfKind_85 ?_
    refine lv_iload_n hx hb dX2_isOfKind_88 rfl (lv_at hl 1 rfl) ?_
    refine callVi (As := [.int address]) (rest := []) (mX5_isOpen l D cI cC cS _ h t1 t2 t3 a1 a2 a3 RA RI RC na ni dy vl db address) ⟨hx, hb, hml, hown, hts⟩ (cwV 1 hts gX2_isOfKind_X5_isOpen rfl rfl rfl (by decide +kernel) ⟨Nat.le_of_ble_eq_true rfl, Nat.le_of_ble_eq_true rfl⟩) wN_blind (fun _ _ hW => wN_warm hW hX) hP hK hD hS hA hl [1, 2, 3, 4, 5, 6, 7] rfl rfl 0 4 rfl rfl rfl rfl rfl (Nat.le_of_ble_eq_true rfl) dX2_isOfKind_89 ⟨Nat.zero_le _, Nat.zero_le _⟩ (fun _ => rfl) (fun u_ H locs hk10 hP hD hS => ?_)
    obtain ⟨r_10, e_r_10⟩ : ∃ z, z = u_ := ⟨_, rfl⟩
    subst e_r_10
    have hP : va_P D vwCl [(o, .inr (1, [.ref h])), (h, .inr (4, [.ref t1, .ref t2, .ref t3, .int na, .int ni, .int dy, .int vl, .int db])), (t1, .inr (5, [.ref a1, .int 10])), (t2, .inr (5, [.ref a2, .int 6])), (t3, .inr (5, [.ref a3, .int 3])), (a1, .inl (cI, 240, .inl RA)), (a2, .inl (cI, 30, .inl RI)), (a3, .inl (cI, 36, .inl RC))] H := hP
    have hD : va_D Fr [(o, .inr (1, [.ref h])), (h, .inr (4, [.ref t1, .ref t2, .ref t3, .int na, .int ni, .int dy, .int vl, .int db])), (t1, .inr (5, [.ref a1, .int 10])), (t2, .inr (5, [.ref a2, .int 6])), (t3, .inr (5, [.ref a3, .int 3])), (a1, .inl (cI, 240, .inl RA)), (a2, .inl (cI, 30, .inl RI)), (a3, .inl (cI, 36, .inl RC))] := hD
    refine W.eq (g2 := F0 m 92 ls [.int (bi r_10)]) rfl ?_
    refine lv_if_eq (tgt := 111) hx hb dX2_isOfKind_92 (by decide) (fun c92 => ?_) (fun c92 => ?_)
    · refine lv_iconst (v := 0) hx hb dX2_isOfKind_111 (by decide) ?_
      exact endZ hx hb hr hlk hP hK hD hS dX2_isOfKind_112 rfl false rfl ⟨(if_neg c1_5).trans ((if_neg c1_6).trans ((if_pos c1_7).trans ((bd1_e hk10).trans ((if_neg (bi_z c92)).trans rfl)))), rfl⟩
    · refine lv_aload_n hx hb dX2_isOfKind_95 rfl (lv_at hl 0 rfl) ?_
      refine va_get (D := D) (ci := 1) (C := RX2) (T := TX2) (N := 1) hx hb hts w_2 hown hK hP 0 rfl rfl 0 (by decide) w_1 (fun _ h9 => h9) rfl dX2_isOfKind_96 ?_
      refine lv_iload_n hx hb dX2_isOfKind_99 rfl (lv_at hl 1 rfl) ?_
      refine lv_iconst (v := 2) hx hb dX2_isOfKind_100 (by decide) ?_
      refine callVi (As := [.int address, .int 2]) (rest := []) (mX5_ofAddress l D cI cC cS _ h t1 t2 t3 a1 a2 a3 RA RI RC na ni dy vl db address 2) ⟨hx, hb, hml, hown, hts⟩ (cwV 2 hts gX2_isOfKind_X5_ofAddress rfl rfl rfl (by decide +kernel) ⟨Nat.le_of_ble_eq_true rfl, Nat.le_of_ble_eq_true rfl⟩) wN_blind (fun _ _ hW => wN_warm hW hX) hP hK hD hS hA hl [1, 2, 3, 4, 5, 6, 7] rfl rfl 0 4 rfl rfl rfl rfl rfl (Nat.le_of_ble_eq_true rfl) dX2_isOfKind_101 ⟨Nat.zero_le _, Nat.zero_le _⟩ (fun _ => rfl) (fun u_ H locs hk12 hP hD hS => ?_)
      obtain ⟨r_12, e_r_12⟩ : ∃ z, z = u_ := ⟨_, rfl⟩
      subst e_r_12
      have hP : va_P D vwCl [(o, .inr (1, [.ref h])), (h, .inr (4, [.ref t1, .ref t2, .ref t3, .int na, .int ni, .int dy, .int vl, .int db])), (t1, .inr (5, [.ref a1, .int 10])), (t2, .inr (5, [.ref a2, .int 6])), (t3, .inr (5, [.ref a3, .int 3])), (a1, .inl (cI, 240, .inl RA)), (a2, .inl (cI, 30, .inl RI)), (a3, .inl (cI, 36, .inl RC))] H := hP
      have hD : va_D Fr [(o, .inr (1, [.ref h])), (h, .inr (4, [.ref t1, .ref t2, .ref t3, .int na, .int ni, .int dy, .int vl, .int db])), (t1, .inr (5, [.ref a1, .int 10])), (t2, .inr (5, [.ref a2, .int 6])), (t3, .inr (5, [.ref a3, .int 3])), (a1, .inl (cI, 240, .inl RA)), (a2, .inl (cI, 30, .inl RI)), (a3, .inl (cI, 36, .inl RC))] := hD
      refine W.eq (g2 := F0 m 104 ls [.int r_12]) rfl ?_
      refine lv_if_ne (tgt := 111) hx hb dX2_isOfKind_104 (by decide) (fun c104 => ?_) (fun c104 => ?_)
      · refine lv_iconst (v := 0) hx hb dX2_isOfKind_111 (by decide) ?_
        exact endZ hx hb hr hlk hP hK hD hS dX2_isOfKind_112 rfl false rfl ⟨(if_neg c1_5).trans ((if_neg c1_6).trans ((if_pos c1_7).trans ((bd1_e hk10).trans ((if_pos (bi_o c92)).trans ((bd1_e hk12).trans ((if_neg c104).trans rfl)))))), rfl⟩
      · refine lv_iconst (v := 1) hx hb dX2_isOfKind_107 (by decide) ?_
        refine lv_goto (tgt := 112) hx hb dX2_isOfKind_108 (by decide) ?_
        exact endZ hx hb hr hlk hP hK hD hS dX2_isOfKind_112 rfl true rfl ⟨(if_neg c1_5).trans ((if_neg c1_6).trans ((if_pos c1_7).trans ((bd1_e hk10).trans ((if_pos (bi_o c92)).trans ((bd1_e hk12).trans ((if_pos c104).trans rfl)))))), rfl⟩
  refine lv_tableOut (tgt := 113) hx hb dX2_isOfKind_1 (tab_out (lo := 5) (hi := 7) (by decide) (fun k hk1 hk2 => ?_)) (by decide) ?_
  · rcases (show k = 5 ∨ k = 6 ∨ k = 7 by omega) with rfl | rfl | rfl
    · exact ne_ti c1_5 (by decide)
    · exact ne_ti c1_6 (by decide)
    · exact ne_ti c1_7 (by decide)
  refine lv_aload_n hx hb dX2_isOfKind_113 rfl (lv_at hl 0 rfl) ?_
  refine va_get (D := D) (ci := 1) (C := RX2) (T := TX2) (N := 1) hx hb hts w_2 hown hK hP 0 rfl rfl 0 (by decide) w_1 (fun _ h9 => h9) rfl dX2_isOfKind_114 ?_
  refine lv_iload_n hx hb dX2_isOfKind_117 rfl (lv_at hl 1 rfl) ?_
  refine lv_iconst (v := 1) hx hb dX2_isOfKind_118 (by decide) ?_
  refine callVi (As := [.int address, .int 1]) (rest := []) (mX5_ofAddress l D cI cC cS _ h t1 t2 t3 a1 a2 a3 RA RI RC na ni dy vl db address 1) ⟨hx, hb, hml, hown, hts⟩ (cwV 2 hts gX2_isOfKind_X5_ofAddress rfl rfl rfl (by decide +kernel) ⟨Nat.le_of_ble_eq_true rfl, Nat.le_of_ble_eq_true rfl⟩) wN_blind (fun _ _ hW => wN_warm hW hX) hP hK hD hS hA hl [1, 2, 3, 4, 5, 6, 7] rfl rfl 0 4 rfl rfl rfl rfl rfl (Nat.le_of_ble_eq_true rfl) dX2_isOfKind_119 ⟨Nat.zero_le _, Nat.zero_le _⟩ (fun _ => rfl) (fun u_ H locs hk14 hP hD hS => ?_)
  obtain ⟨r_14, e_r_14⟩ : ∃ z, z = u_ := ⟨_, rfl⟩
  subst e_r_14
  have hP : va_P D vwCl [(o, .inr (1, [.ref h])), (h, .inr (4, [.ref t1, .ref t2, .ref t3, .int na, .int ni, .int dy, .int vl, .int db])), (t1, .inr (5, [.ref a1, .int 10])), (t2, .inr (5, [.ref a2, .int 6])), (t3, .inr (5, [.ref a3, .int 3])), (a1, .inl (cI, 240, .inl RA)), (a2, .inl (cI, 30, .inl RI)), (a3, .inl (cI, 36, .inl RC))] H := hP
  have hD : va_D Fr [(o, .inr (1, [.ref h])), (h, .inr (4, [.ref t1, .ref t2, .ref t3, .int na, .int ni, .int dy, .int vl, .int db])), (t1, .inr (5, [.ref a1, .int 10])), (t2, .inr (5, [.ref a2, .int 6])), (t3, .inr (5, [.ref a3, .int 3])), (a1, .inl (cI, 240, .inl RA)), (a2, .inl (cI, 30, .inl RI)), (a3, .inl (cI, 36, .inl RC))] := hD
  refine W.eq (g2 := F0 m 122 ls [.int r_14]) rfl ?_
  refine lv_iload_n hx hb dX2_isOfKind_122 rfl (lv_at hl 2 rfl) ?_
  refine lv_icmp_ne (tgt := 130) hx hb dX2_isOfKind_123 (by decide) (fun c123 => ?_) (fun c123 => ?_)
  · refine lv_iconst (v := 0) hx hb dX2_isOfKind_130 (by decide) ?_
    exact endZ hx hb hr hlk hP hK hD hS dX2_isOfKind_131 rfl false rfl ⟨(if_neg c1_5).trans ((if_neg c1_6).trans ((if_neg c1_7).trans ((bd1_e hk14).trans ((if_neg c123).trans rfl)))), rfl⟩
  · refine lv_iconst (v := 1) hx hb dX2_isOfKind_126 (by decide) ?_
    refine lv_goto (tgt := 131) hx hb dX2_isOfKind_127 (by decide) ?_
    exact endZ hx hb hr hlk hP hK hD hS dX2_isOfKind_131 rfl true rfl ⟨(if_neg c1_5).trans ((if_neg c1_6).trans ((if_neg c1_7).trans ((bd1_e hk14).trans ((if_pos c123).trans rfl)))), rfl⟩

/-- the loop of X2_addressesOfKind at 4 -/
def fX2_addressesOfKind_4 (RA : Nat → Int32) (na : Int32) (dy : Int32) (kind : Int32) : Nat → Int32 → Int32 → Int32
  | 0, _, _ => default
  | fu + 1, x2, x3 =>
    (if na ≤ x3 then x2 else bd1 (fX2_isOfKind RA dy x3 kind) (fun (r_4 : Bool) => (if r_4 = true then bd1 (x2 ||| (1 <<< (x3 &&& 31))) (fun (y_5 : Int32) => fX2_addressesOfKind_4 RA na dy kind fu y_5 (x3 + 1)) else fX2_addressesOfKind_4 RA na dy kind fu x2 (x3 + 1))))
theorem fX2_addressesOfKind_4_s (RA : Nat → Int32) (na : Int32) (dy : Int32) (kind : Int32) (fu : Nat) (x2 : Int32) (x3 : Int32) : fX2_addressesOfKind_4 RA na dy kind (fu + 1) x2 x3 =
    (if na ≤ x3 then x2 else bd1 (fX2_isOfKind RA dy x3 kind) (fun (r_4 : Bool) => (if r_4 = true then bd1 (x2 ||| (1 <<< (x3 &&& 31))) (fun (y_5 : Int32) => fX2_addressesOfKind_4 RA na dy kind fu y_5 (x3 + 1)) else fX2_addressesOfKind_4 RA na dy kind fu x2 (x3 + 1)))) := rfl

/-- the value of X2_addressesOfKind, path by path -/
def fX2_addressesOfKind (RA : Nat → Int32) (na : Int32) (dy : Int32) (kind : Int32) : Int32 :=
  fX2_addressesOfKind_4 RA na dy kind ((na.toInt - (0 : Int32).toInt).toNat + 1) 0 0

set_option maxHeartbeats 4000000 in
set_option maxRecDepth 100000 in
/-- X2_addressesOfKind -/
theorem mX2_addressesOfKind (l : Launch) (D : va_G) (cI cC cS : ClassId) (sz : Nat) (o : Nat) (h : Nat) (t1 : Nat) (t2 : Nat) (t3 : Nat) (a1 : Nat) (a2 : Nat) (a3 : Nat) (RA : Nat → Int32) (RI : Nat → Int32) (RC : Nat → Int32) (na : Int32) (ni : Int32) (dy : Int32) (vl : Int32) (db : Int32) (kind : Int32)  : Met l yX2_addressesOfKind wsX2_addressesOfKind ({ frames := 3, cells := 0, slots := 0, locals := 67 } : Jvm.Room) (va_Pc [.ref o, .int kind] (wPre D (TY cI cC cS) [(o, .inr (1, [.ref h])), (h, .inr (4, [.ref t1, .ref t2, .ref t3, .int na, .int ni, .int dy, .int vl, .int db])), (t1, .inr (5, [.ref a1, .int 10])), (t2, .inr (5, [.ref a2, .int 6])), (t3, .inr (5, [.ref a3, .int 3])), (a1, .inl (cI, 240, .inl RA)), (a2, .inl (cI, 30, .inl RI)), (a3, .inl (cI, 36, .inl RC))] sz wN)) (qI D (TY cI cC cS) (fun (r : Int32) (u : Int32) => fX2_addressesOfKind RA na dy kind = u ∧ r = u) (fun u => [(o, .inr (1, [.ref h])), (h, .inr (4, [.ref t1, .ref t2, .ref t3, .int na, .int ni, .int dy, .int vl, .int db])), (t1, .inr (5, [.ref a1, .int 10])), (t2, .inr (5, [.ref a2, .int 6])), (t3, .inr (5, [.ref a3, .int 3])), (a1, .inl (cI, 240, .inl RA)), (a2, .inl (cI, 30, .inl RI)), (a3, .inl (cI, 36, .inl RC))]) (va_A [(o, .inr (1, [.ref h])), (h, .inr (4, [.ref t1, .ref t2, .ref t3, .int na, .int ni, .int dy, .int vl, .int db])), (t1, .inr (5, [.ref a1, .int 10])), (t2, .inr (5, [.ref a2, .int 6])), (t3, .inr (5, [.ref a3, .int 3])), (a1, .inl (cI, 240, .inl RA)), (a2, .inl (cI, 30, .inl RI)), (a3, .inl (cI, 36, .inl RC))] sz)) 0 0 (va_A [(o, .inr (1, [.ref h])), (h, .inr (4, [.ref t1, .ref t2, .ref t3, .int na, .int ni, .int dy, .int vl, .int db])), (t1, .inr (5, [.ref a1, .int 10])), (t2, .inr (5, [.ref a2, .int 6])), (t3, .inr (5, [.ref a3, .int 3])), (a1, .inl (cI, 240, .inl RA)), (a2, .inl (cI, 30, .inl RI)), (a3, .inl (cI, 36, .inl RC))] sz) := by
  refine mkM (fun Fr => qI D (TY cI cC cS) (fun (r : Int32) (u : Int32) => fX2_addressesOfKind RA na dy kind = u ∧ r = u) (fun u => [(o, .inr (1, [.ref h])), (h, .inr (4, [.ref t1, .ref t2, .ref t3, .int na, .int ni, .int dy, .int vl, .int db])), (t1, .inr (5, [.ref a1, .int 10])), (t2, .inr (5, [.ref a2, .int 6])), (t3, .inr (5, [.ref a3, .int 3])), (a1, .inl (cI, 240, .inl RA)), (a2, .inl (cI, 30, .inl RI)), (a3, .inl (cI, 36, .inl RC))]) Fr) (cc := cX2_addressesOfKind) (maxL := 4) (ret := (some .int)) (own := RX2) (lv := [(0, .ref o), (1, .int kind)]) (by decide) rfl rfl (Nat.le_of_ble_eq_true rfl) rfl ?_
  intro p e s m below meth c Fr ls hx hb hr hts hown hml hlk hin hP hK hD hS hA hAe hsz hX hl
  have w_1 := hts (.fieldLink RX2 9 "FieldQuotas$Overview" "survey" "LFieldQuotas$Survey;") (List.mem_of_getElem? (i := 1) rfl)
  have w_2 := sub_r (big := wsX2_addressesOfKind) (u_ws RX2 TX2 1) [38] rfl
  refine lv_iconst (v := 0) hx hb dX2_addressesOfKind_0 (by decide) ?_
  refine lv_istore_n (lv' := [(2, .int 0), (0, .ref o), (1, .int kind)]) hx hb dX2_addressesOfKind_1 rfl hl (by decide) rfl (fun ls hl => ?_)
  refine lv_iconst (v := 0) hx hb dX2_addressesOfKind_2 (by decide) ?_
  refine lv_istore_n (lv' := [(3, .int 0), (2, .int 0), (0, .ref o), (1, .int kind)]) hx hb dX2_addressesOfKind_3 rfl hl (by decide) rfl (fun ls hl => ?_)
  have K_4 : ∀ (fu : Nat) (x2 : Int32) (x3 : Int32) (H : Heap) (locs : List Loc) (ls : Array Slot), va_P D vwCl [(o, .inr (1, [.ref h])), (h, .inr (4, [.ref t1, .ref t2, .ref t3, .int na, .int ni, .int dy, .int vl, .int db])), (t1, .inr (5, [.ref a1, .int 10])), (t2, .inr (5, [.ref a2, .int 6])), (t3, .inr (5, [.ref a3, .int 3])), (a1, .inl (cI, 240, .inl RA)), (a2, .inl (cI, 30, .inl RI)), (a3, .inl (cI, 36, .inl RC))] H → va_D Fr [(o, .inr (1, [.ref h])), (h, .inr (4, [.ref t1, .ref t2, .ref t3, .int na, .int ni, .int dy, .int vl, .int db])), (t1, .inr (5, [.ref a1, .int 10])), (t2, .inr (5, [.ref a2, .int 6])), (t3, .inr (5, [.ref a3, .int 3])), (a1, .inl (cI, 240, .inl RA)), (a2, .inl (cI, 30, .inl RI)), (a3, .inl (cI, 36, .inl RC))] → va_S Fr s.heap H locs → lv_has ls 4 [(0, .ref o), (1, .int kind), (2, .int x2), (3, .int x3)] → (na.toInt - x3.toInt).toNat < fu → fX2_addressesOfKind RA na dy kind = fX2_addressesOfKind_4 RA na dy kind fu x2 x3 → W p l e (headSpec wsX2_addressesOfKind ({ frames := 3, cells := 0, slots := 0, locals := 67 } : Jvm.Room)).room s m ([.ref o, .int kind] : List Value).toArray below meth c H locs 0 0 (MQ below (qI D (TY cI cC cS) (fun (r : Int32) (u : Int32) => fX2_addressesOfKind RA na dy kind = u ∧ r = u) (fun u => [(o, .inr (1, [.ref h])), (h, .inr (4, [.ref t1, .ref t2, .ref t3, .int na, .int ni, .int dy, .int vl, .int db])), (t1, .inr (5, [.ref a1, .int 10])), (t2, .inr (5, [.ref a2, .int 6])), (t3, .inr (5, [.ref a3, .int 3])), (a1, .inl (cI, 240, .inl RA)), (a2, .inl (cI, 30, .inl RI)), (a3, .inl (cI, 36, .inl RC))]) Fr) ([.ref o, .int kind] : List Value).toArray s 0 0 Fr) (F0 m 4 ls []) := by
    intro fu
    induction fu with
    | zero => intros; exact absurd (by assumption) (Nat.not_lt_zero _)
    | succ fu ih_4 =>
      intro x2 x3 H locs ls hP hD hS hl  hm_4 E_4
      refine lv_iload_n hx hb dX2_addressesOfKind_4 rfl (lv_at hl 3 rfl) ?_
      refine lv_aload_n hx hb dX2_addressesOfKind_5 rfl (lv_at hl 0 rfl) ?_
      refine va_get (D := D) (ci := 1) (C := RX2) (T := TX2) (N := 1) hx hb hts w_2 hown hK hP 0 rfl rfl 0 (by decide) w_1 (fun _ h9 => h9) rfl dX2_addressesOfKind_6 ?_
      refine callVi (As := []) (rest := [.int x3]) (mX5_addressCount l D cI cC cS _ h t1 t2 t3 a1 a2 a3 RA RI RC na ni dy vl db) ⟨hx, hb, hml, hown, hts⟩ (cwV 0 hts gX2_addressesOfKind_X5_addressCount rfl rfl rfl (by decide +kernel) ⟨Nat.le_of_ble_eq_true rfl, Nat.le_of_ble_eq_true rfl⟩) wN_blind (fun _ _ hW => wN_warm hW hX) hP hK hD hS hA hl [1, 2, 3, 4, 5, 6, 7] rfl rfl 0 4 rfl rfl rfl rfl rfl (Nat.le_of_ble_eq_true rfl) dX2_addressesOfKind_9 ⟨Nat.zero_le _, Nat.zero_le _⟩ (fun _ => rfl) (fun u_ H locs hk2 hP hD hS => ?_)
      obtain ⟨r_2, e_r_2⟩ : ∃ z, z = u_ := ⟨_, rfl⟩
      subst e_r_2
      have hP : va_P D vwCl [(o, .inr (1, [.ref h])), (h, .inr (4, [.ref t1, .ref t2, .ref t3, .int na, .int ni, .int dy, .int vl, .int db])), (t1, .inr (5, [.ref a1, .int 10])), (t2, .inr (5, [.ref a2, .int 6])), (t3, .inr (5, [.ref a3, .int 3])), (a1, .inl (cI, 240, .inl RA)), (a2, .inl (cI, 30, .inl RI)), (a3, .inl (cI, 36, .inl RC))] H := hP
      have hD : va_D Fr [(o, .inr (1, [.ref h])), (h, .inr (4, [.ref t1, .ref t2, .ref t3, .int na, .int ni, .int dy, .int vl, .int db])), (t1, .inr (5, [.ref a1, .int 10])), (t2, .inr (5, [.ref a2, .int 6])), (t3, .inr (5, [.ref a3, .int 3])), (a1, .inl (cI, 240, .inl RA)), (a2, .inl (cI, 30, .inl RI)), (a3, .inl (cI, 36, .inl RC))] := hD
      have hk2 : na = r_2 := hk2
      subst hk2
      refine W.eq (g2 := F0 m 12 ls [.int na, .int x3]) rfl ?_
      refine lv_icmp_ge (tgt := 36) hx hb dX2_addressesOfKind_12 (by decide) (fun c12 => ?_) (fun c12 => ?_)
      · refine lv_iload_n hx hb dX2_addressesOfKind_36 rfl (lv_at hl 2 rfl) ?_
        exact endI hx hb hr hlk hP hK hD hS dX2_addressesOfKind_37 x2 rfl ⟨(E_4).trans ((fX2_addressesOfKind_4_s RA na dy kind fu x2 x3).trans ((if_pos c12).trans rfl)), rfl⟩
      · refine lv_aload_n hx hb dX2_addressesOfKind_15 rfl (lv_at hl 0 rfl) ?_
        refine lv_iload_n hx hb dX2_addressesOfKind_16 rfl (lv_at hl 3 rfl) ?_
        refine lv_iload_n hx hb dX2_addressesOfKind_17 rfl (lv_at hl 1 rfl) ?_
        refine callVi (As := [.int x3, .int kind]) (rest := []) (mX2_isOfKind l D cI cC cS _ o h t1 t2 t3 a1 a2 a3 RA RI RC na ni dy vl db x3 kind) ⟨hx, hb, hml, hown, hts⟩ (cwV 2 hts gX2_addressesOfKind_X2_isOfKind rfl rfl rfl (by decide +kernel) ⟨Nat.le_of_ble_eq_true rfl, Nat.le_of_ble_eq_true rfl⟩) wN_blind (fun _ _ hW => wN_warm hW hX) hP hK hD hS hA hl [0, 1, 2, 3, 4, 5, 6, 7] rfl rfl 0 1 rfl rfl rfl rfl rfl (Nat.le_of_ble_eq_true rfl) dX2_addressesOfKind_18 ⟨Nat.zero_le _, Nat.zero_le _⟩ (fun _ => rfl) (fun u_ H locs hk4 hP hD hS => ?_)
        obtain ⟨r_4, e_r_4⟩ : ∃ z, z = u_ := ⟨_, rfl⟩
        subst e_r_4
        have hP : va_P D vwCl [(o, .inr (1, [.ref h])), (h, .inr (4, [.ref t1, .ref t2, .ref t3, .int na, .int ni, .int dy, .int vl, .int db])), (t1, .inr (5, [.ref a1, .int 10])), (t2, .inr (5, [.ref a2, .int 6])), (t3, .inr (5, [.ref a3, .int 3])), (a1, .inl (cI, 240, .inl RA)), (a2, .inl (cI, 30, .inl RI)), (a3, .inl (cI, 36, .inl RC))] H := hP
        have hD : va_D Fr [(o, .inr (1, [.ref h])), (h, .inr (4, [.ref t1, .ref t2, .ref t3, .int na, .int ni, .int dy, .int vl, .int db])), (t1, .inr (5, [.ref a1, .int 10])), (t2, .inr (5, [.ref a2, .int 6])), (t3, .inr (5, [.ref a3, .int 3])), (a1, .inl (cI, 240, .inl RA)), (a2, .inl (cI, 30, .inl RI)), (a3, .inl (cI, 36, .inl RC))] := hD
        refine W.eq (g2 := F0 m 21 ls [.int (bi r_4)]) rfl ?_
        refine lv_if_eq (tgt := 30) hx hb dX2_addressesOfKind_21 (by decide) (fun c21 => ?_) (fun c21 => ?_)
        · refine lv_iinc (v := x3 + 1) (lv' := [(3, .int (x3 + 1)), (0, .ref o), (1, .int kind), (2, .int x2)]) hx hb dX2_addressesOfKind_30 hl (k := 3) rfl (by rfl) (by decide) rfl (fun ls hl => ?_)
          refine lv_goto (tgt := 4) hx hb dX2_addressesOfKind_33 (by decide) ?_
          exact ih_4 x2 (x3 + 1) _ _ ls hP hD hS (lv_sub hl [1, 2, 3, 0] rfl) (Nat.lt_of_lt_of_le (lp_dec c12) (Nat.le_of_lt_succ hm_4)) ((E_4).trans ((fX2_addressesOfKind_4_s RA na dy kind fu x2 x3).trans ((if_neg c12).trans ((bd1_e hk4).trans ((if_neg (bi_z c21)).trans rfl)))))
        · refine lv_iload_n hx hb dX2_addressesOfKind_24 rfl (lv_at hl 2 rfl) ?_
          refine lv_iconst (v := 1) hx hb dX2_addressesOfKind_25 (by decide) ?_
          refine lv_iload_n hx hb dX2_addressesOfKind_26 rfl (lv_at hl 3 rfl) ?_
          refine lv_ishl hx hb dX2_addressesOfKind_27 ?_
          refine lv_ior hx hb dX2_addressesOfKind_28 ?_
          refine lv_topi (fun y_5 ey_5 => ?_)
          refine lv_istore_n (lv' := [(2, .int y_5), (0, .ref o), (1, .int kind), (3, .int x3)]) hx hb dX2_addressesOfKind_29 rfl hl (by decide) rfl (fun ls hl => ?_)
          refine lv_iinc (v := x3 + 1) (lv' := [(3, .int (x3 + 1)), (2, .int y_5), (0, .ref o), (1, .int kind)]) hx hb dX2_addressesOfKind_30 hl (k := 3) rfl (by rfl) (by decide) rfl (fun ls hl => ?_)
          refine lv_goto (tgt := 4) hx hb dX2_addressesOfKind_33 (by decide) ?_
          exact ih_4 y_5 (x3 + 1) _ _ ls hP hD hS (lv_sub hl [2, 3, 1, 0] rfl) (Nat.lt_of_lt_of_le (lp_dec c12) (Nat.le_of_lt_succ hm_4)) ((E_4).trans ((fX2_addressesOfKind_4_s RA na dy kind fu x2 x3).trans ((if_neg c12).trans ((bd1_e hk4).trans ((if_pos (bi_o c21)).trans ((bd1_n ey_5).trans rfl))))))
  exact K_4 ((na.toInt - (0 : Int32).toInt).toNat + 1) 0 0 _ _ ls hP hD hS (lv_sub hl [2, 3, 1, 0] rfl) (Nat.lt_succ_self _) rfl

/-- the loop of X2_possibleAddresses at 5 -/
def fX2_possibleAddresses_5 (RA : Nat → Int32) (RI : Nat → Int32) (na : Int32) (dy : Int32) (db : Int32) (interviewer : Int32) (time : Int32) : Nat → Int32 → Int32 → Int32
  | 0, _, _ => default
  | fu + 1, x3, x4 =>
    (if na ≤ x4 then x3 else bd1 (fX5_isPossible RA RI dy db interviewer x4 time) (fun (r_4 : Bool) => (if r_4 = true then bd1 (x3 ||| (1 <<< (x4 &&& 31))) (fun (y_5 : Int32) => fX2_possibleAddresses_5 RA RI na dy db interviewer time fu y_5 (x4 + 1)) else fX2_possibleAddresses_5 RA RI na dy db interviewer time fu x3 (x4 + 1))))
theorem fX2_possibleAddresses_5_s (RA : Nat → Int32) (RI : Nat → Int32) (na : Int32) (dy : Int32) (db : Int32) (interviewer : Int32) (time : Int32) (fu : Nat) (x3 : Int32) (x4 : Int32) : fX2_possibleAddresses_5 RA RI na dy db interviewer time (fu + 1) x3 x4 =
    (if na ≤ x4 then x3 else bd1 (fX5_isPossible RA RI dy db interviewer x4 time) (fun (r_4 : Bool) => (if r_4 = true then bd1 (x3 ||| (1 <<< (x4 &&& 31))) (fun (y_5 : Int32) => fX2_possibleAddresses_5 RA RI na dy db interviewer time fu y_5 (x4 + 1)) else fX2_possibleAddresses_5 RA RI na dy db interviewer time fu x3 (x4 + 1)))) := rfl

/-- the value of X2_possibleAddresses, path by path -/
def fX2_possibleAddresses (RA : Nat → Int32) (RI : Nat → Int32) (na : Int32) (dy : Int32) (db : Int32) (interviewer : Int32) (time : Int32) : Int32 :=
  fX2_possibleAddresses_5 RA RI na dy db interviewer time ((na.toInt - (0 : Int32).toInt).toNat + 1) 0 0

set_option maxHeartbeats 4000000 in
set_option maxRecDepth 100000 in
/-- X2_possibleAddresses -/
theorem mX2_possibleAddresses (l : Launch) (D : va_G) (cI cC cS : ClassId) (sz : Nat) (o : Nat) (h : Nat) (t1 : Nat) (t2 : Nat) (t3 : Nat) (a1 : Nat) (a2 : Nat) (a3 : Nat) (RA : Nat → Int32) (RI : Nat → Int32) (RC : Nat → Int32) (na : Int32) (ni : Int32) (dy : Int32) (vl : Int32) (db : Int32) (interviewer : Int32) (time : Int32)  : Met l yX2_possibleAddresses wsX2_possibleAddresses ({ frames := 3, cells := 0, slots := 0, locals := 71 } : Jvm.Room) (va_Pc [.ref o, .int interviewer, .int time] (wPre D (TY cI cC cS) [(o, .inr (1, [.ref h])), (h, .inr (4, [.ref t1, .ref t2, .ref t3, .int na, .int ni, .int dy, .int vl, .int db])), (t1, .inr (5, [.ref a1, .int 10])), (t2, .inr (5, [.ref a2, .int 6])), (t3, .inr (5, [.ref a3, .int 3])), (a1, .inl (cI, 240, .inl RA)), (a2, .inl (cI, 30, .inl RI)), (a3, .inl (cI, 36, .inl RC))] sz wN)) (qI D (TY cI cC cS) (fun (r : Int32) (u : Int32) => fX2_possibleAddresses RA RI na dy db interviewer time = u ∧ r = u) (fun u => [(o, .inr (1, [.ref h])), (h, .inr (4, [.ref t1, .ref t2, .ref t3, .int na, .int ni, .int dy, .int vl, .int db])), (t1, .inr (5, [.ref a1, .int 10])), (t2, .inr (5, [.ref a2, .int 6])), (t3, .inr (5, [.ref a3, .int 3])), (a1, .inl (cI, 240, .inl RA)), (a2, .inl (cI, 30, .inl RI)), (a3, .inl (cI, 36, .inl RC))]) (va_A [(o, .inr (1, [.ref h])), (h, .inr (4, [.ref t1, .ref t2, .ref t3, .int na, .int ni, .int dy, .int vl, .int db])), (t1, .inr (5, [.ref a1, .int 10])), (t2, .inr (5, [.ref a2, .int 6])), (t3, .inr (5, [.ref a3, .int 3])), (a1, .inl (cI, 240, .inl RA)), (a2, .inl (cI, 30, .inl RI)), (a3, .inl (cI, 36, .inl RC))] sz)) 0 0 (va_A [(o, .inr (1, [.ref h])), (h, .inr (4, [.ref t1, .ref t2, .ref t3, .int na, .int ni, .int dy, .int vl, .int db])), (t1, .inr (5, [.ref a1, .int 10])), (t2, .inr (5, [.ref a2, .int 6])), (t3, .inr (5, [.ref a3, .int 3])), (a1, .inl (cI, 240, .inl RA)), (a2, .inl (cI, 30, .inl RI)), (a3, .inl (cI, 36, .inl RC))] sz) := by
  refine mkM (fun Fr => qI D (TY cI cC cS) (fun (r : Int32) (u : Int32) => fX2_possibleAddresses RA RI na dy db interviewer time = u ∧ r = u) (fun u => [(o, .inr (1, [.ref h])), (h, .inr (4, [.ref t1, .ref t2, .ref t3, .int na, .int ni, .int dy, .int vl, .int db])), (t1, .inr (5, [.ref a1, .int 10])), (t2, .inr (5, [.ref a2, .int 6])), (t3, .inr (5, [.ref a3, .int 3])), (a1, .inl (cI, 240, .inl RA)), (a2, .inl (cI, 30, .inl RI)), (a3, .inl (cI, 36, .inl RC))]) Fr) (cc := cX2_possibleAddresses) (maxL := 5) (ret := (some .int)) (own := RX2) (lv := [(0, .ref o), (1, .int interviewer), (2, .int time)]) (by decide) rfl rfl (Nat.le_of_ble_eq_true rfl) rfl ?_
  intro p e s m below meth c Fr ls hx hb hr hts hown hml hlk hin hP hK hD hS hA hAe hsz hX hl
  have w_1 := hts (.fieldLink RX2 9 "FieldQuotas$Overview" "survey" "LFieldQuotas$Survey;") (List.mem_of_getElem? (i := 1) rfl)
  have w_2 := sub_r (big := wsX2_possibleAddresses) (u_ws RX2 TX2 1) [31] rfl
  refine lv_iconst (v := 0) hx hb dX2_possibleAddresses_0 (by decide) ?_
  refine lv_istore_n (lv' := [(3, .int 0), (0, .ref o), (1, .int interviewer), (2, .int time)]) hx hb dX2_possibleAddresses_1 rfl hl (by decide) rfl (fun ls hl => ?_)
  refine lv_iconst (v := 0) hx hb dX2_possibleAddresses_2 (by decide) ?_
  refine lv_istore (lv' := [(4, .int 0), (3, .int 0), (0, .ref o), (1, .int interviewer), (2, .int time)]) hx hb dX2_possibleAddresses_3 hl (by decide) rfl (fun ls hl => ?_)
  have K_5 : ∀ (fu : Nat) (x3 : Int32) (x4 : Int32) (H : Heap) (locs : List Loc) (ls : Array Slot), va_P D vwCl [(o, .inr (1, [.ref h])), (h, .inr (4, [.ref t1, .ref t2, .ref t3, .int na, .int ni, .int dy, .int vl, .int db])), (t1, .inr (5, [.ref a1, .int 10])), (t2, .inr (5, [.ref a2, .int 6])), (t3, .inr (5, [.ref a3, .int 3])), (a1, .inl (cI, 240, .inl RA)), (a2, .inl (cI, 30, .inl RI)), (a3, .inl (cI, 36, .inl RC))] H → va_D Fr [(o, .inr (1, [.ref h])), (h, .inr (4, [.ref t1, .ref t2, .ref t3, .int na, .int ni, .int dy, .int vl, .int db])), (t1, .inr (5, [.ref a1, .int 10])), (t2, .inr (5, [.ref a2, .int 6])), (t3, .inr (5, [.ref a3, .int 3])), (a1, .inl (cI, 240, .inl RA)), (a2, .inl (cI, 30, .inl RI)), (a3, .inl (cI, 36, .inl RC))] → va_S Fr s.heap H locs → lv_has ls 5 [(0, .ref o), (1, .int interviewer), (2, .int time), (3, .int x3), (4, .int x4)] → (na.toInt - x4.toInt).toNat < fu → fX2_possibleAddresses RA RI na dy db interviewer time = fX2_possibleAddresses_5 RA RI na dy db interviewer time fu x3 x4 → W p l e (headSpec wsX2_possibleAddresses ({ frames := 3, cells := 0, slots := 0, locals := 71 } : Jvm.Room)).room s m ([.ref o, .int interviewer, .int time] : List Value).toArray below meth c H locs 0 0 (MQ below (qI D (TY cI cC cS) (fun (r : Int32) (u : Int32) => fX2_possibleAddresses RA RI na dy db interviewer time = u ∧ r = u) (fun u => [(o, .inr (1, [.ref h])), (h, .inr (4, [.ref t1, .ref t2, .ref t3, .int na, .int ni, .int dy, .int vl, .int db])), (t1, .inr (5, [.ref a1, .int 10])), (t2, .inr (5, [.ref a2, .int 6])), (t3, .inr (5, [.ref a3, .int 3])), (a1, .inl (cI, 240, .inl RA)), (a2, .inl (cI, 30, .inl RI)), (a3, .inl (cI, 36, .inl RC))]) Fr) ([.ref o, .int interviewer, .int time] : List Value).toArray s 0 0 Fr) (F0 m 5 ls []) := by
    intro fu
    induction fu with
    | zero => intros; exact absurd (by assumption) (Nat.not_lt_zero _)
    | succ fu ih_5 =>
      intro x3 x4 H locs ls hP hD hS hl  hm_5 E_5
      refine lv_iload hx hb dX2_possibleAddresses_5 (lv_at hl 4 rfl) ?_
      refine lv_aload_n hx hb dX2_possibleAddresses_7 rfl (lv_at hl 0 rfl) ?_
      refine va_get (D := D) (ci := 1) (C := RX2) (T := TX2) (N := 1) hx hb hts w_2 hown hK hP 0 rfl rfl 0 (by decide) w_1 (fun _ h9 => h9) rfl dX2_possibleAddresses_8 ?_
      refine callVi (As := []) (rest := [.int x4]) (mX5_addressCount l D cI cC cS _ h t1 t2 t3 a1 a2 a3 RA RI RC na ni dy vl db) ⟨hx, hb, hml, hown, hts⟩ (cwV 0 hts gX2_possibleAddresses_X5_addressCount rfl rfl rfl (by decide +kernel) ⟨Nat.le_of_ble_eq_true rfl, Nat.le_of_ble_eq_true rfl⟩) wN_blind (fun _ _ hW => wN_warm hW hX) hP hK hD hS hA hl [1, 2, 3, 4, 5, 6, 7] rfl rfl 0 4 rfl rfl rfl rfl rfl (Nat.le_of_ble_eq_true rfl) dX2_possibleAddresses_11 ⟨Nat.zero_le _, Nat.zero_le _⟩ (fun _ => rfl) (fun u_ H locs hk2 hP hD hS => ?_)
      obtain ⟨r_2, e_r_2⟩ : ∃ z, z = u_ := ⟨_, rfl⟩
      subst e_r_2
      have hP : va_P D vwCl [(o, .inr (1, [.ref h])), (h, .inr (4, [.ref t1, .ref t2, .ref t3, .int na, .int ni, .int dy, .int vl, .int db])), (t1, .inr (5, [.ref a1, .int 10])), (t2, .inr (5, [.ref a2, .int 6])), (t3, .inr (5, [.ref a3, .int 3])), (a1, .inl (cI, 240, .inl RA)), (a2, .inl (cI, 30, .inl RI)), (a3, .inl (cI, 36, .inl RC))] H := hP
      have hD : va_D Fr [(o, .inr (1, [.ref h])), (h, .inr (4, [.ref t1, .ref t2, .ref t3, .int na, .int ni, .int dy, .int vl, .int db])), (t1, .inr (5, [.ref a1, .int 10])), (t2, .inr (5, [.ref a2, .int 6])), (t3, .inr (5, [.ref a3, .int 3])), (a1, .inl (cI, 240, .inl RA)), (a2, .inl (cI, 30, .inl RI)), (a3, .inl (cI, 36, .inl RC))] := hD
      have hk2 : na = r_2 := hk2
      subst hk2
      refine W.eq (g2 := F0 m 14 ls [.int na, .int x4]) rfl ?_
      refine lv_icmp_ge (tgt := 44) hx hb dX2_possibleAddresses_14 (by decide) (fun c14 => ?_) (fun c14 => ?_)
      · refine lv_iload_n hx hb dX2_possibleAddresses_44 rfl (lv_at hl 3 rfl) ?_
        exact endI hx hb hr hlk hP hK hD hS dX2_possibleAddresses_45 x3 rfl ⟨(E_5).trans ((fX2_possibleAddresses_5_s RA RI na dy db interviewer time fu x3 x4).trans ((if_pos c14).trans rfl)), rfl⟩
      · refine lv_aload_n hx hb dX2_possibleAddresses_17 rfl (lv_at hl 0 rfl) ?_
        refine va_get (D := D) (ci := 1) (C := RX2) (T := TX2) (N := 1) hx hb hts w_2 hown hK hP 0 rfl rfl 0 (by decide) w_1 (fun _ h9 => h9) rfl dX2_possibleAddresses_18 ?_
        refine lv_iload_n hx hb dX2_possibleAddresses_21 rfl (lv_at hl 1 rfl) ?_
        refine lv_iload hx hb dX2_possibleAddresses_22 (lv_at hl 4 rfl) ?_
        refine lv_iload_n hx hb dX2_possibleAddresses_24 rfl (lv_at hl 2 rfl) ?_
        refine callVi (As := [.int interviewer, .int x4, .int time]) (rest := []) (mX5_isPossible l D cI cC cS _ h t1 t2 t3 a1 a2 a3 RA RI RC na ni dy vl db interviewer x4 time) ⟨hx, hb, hml, hown, hts⟩ (cwV 3 hts gX2_possibleAddresses_X5_isPossible rfl rfl rfl (by decide +kernel) ⟨Nat.le_of_ble_eq_true rfl, Nat.le_of_ble_eq_true rfl⟩) wN_blind (fun _ _ hW => wN_warm hW hX) hP hK hD hS hA hl [1, 2, 3, 4, 5, 6, 7] rfl rfl 0 4 rfl rfl rfl rfl rfl (Nat.le_of_ble_eq_true rfl) dX2_possibleAddresses_25 ⟨Nat.zero_le _, Nat.zero_le _⟩ (fun _ => rfl) (fun u_ H locs hk4 hP hD hS => ?_)
        obtain ⟨r_4, e_r_4⟩ : ∃ z, z = u_ := ⟨_, rfl⟩
        subst e_r_4
        have hP : va_P D vwCl [(o, .inr (1, [.ref h])), (h, .inr (4, [.ref t1, .ref t2, .ref t3, .int na, .int ni, .int dy, .int vl, .int db])), (t1, .inr (5, [.ref a1, .int 10])), (t2, .inr (5, [.ref a2, .int 6])), (t3, .inr (5, [.ref a3, .int 3])), (a1, .inl (cI, 240, .inl RA)), (a2, .inl (cI, 30, .inl RI)), (a3, .inl (cI, 36, .inl RC))] H := hP
        have hD : va_D Fr [(o, .inr (1, [.ref h])), (h, .inr (4, [.ref t1, .ref t2, .ref t3, .int na, .int ni, .int dy, .int vl, .int db])), (t1, .inr (5, [.ref a1, .int 10])), (t2, .inr (5, [.ref a2, .int 6])), (t3, .inr (5, [.ref a3, .int 3])), (a1, .inl (cI, 240, .inl RA)), (a2, .inl (cI, 30, .inl RI)), (a3, .inl (cI, 36, .inl RC))] := hD
        refine W.eq (g2 := F0 m 28 ls [.int (bi r_4)]) rfl ?_
        refine lv_if_eq (tgt := 38) hx hb dX2_possibleAddresses_28 (by decide) (fun c28 => ?_) (fun c28 => ?_)
        · refine lv_iinc (v := x4 + 1) (lv' := [(4, .int (x4 + 1)), (0, .ref o), (1, .int interviewer), (2, .int time), (3, .int x3)]) hx hb dX2_possibleAddresses_38 hl (k := 4) rfl (by rfl) (by decide) rfl (fun ls hl => ?_)
          refine lv_goto (tgt := 5) hx hb dX2_possibleAddresses_41 (by decide) ?_
          exact ih_5 x3 (x4 + 1) _ _ ls hP hD hS (lv_sub hl [1, 2, 3, 4, 0] rfl) (Nat.lt_of_lt_of_le (lp_dec c14) (Nat.le_of_lt_succ hm_5)) ((E_5).trans ((fX2_possibleAddresses_5_s RA RI na dy db interviewer time fu x3 x4).trans ((if_neg c14).trans ((bd1_e hk4).trans ((if_neg (bi_z c28)).trans rfl)))))
        · refine lv_iload_n hx hb dX2_possibleAddresses_31 rfl (lv_at hl 3 rfl) ?_
          refine lv_iconst (v := 1) hx hb dX2_possibleAddresses_32 (by decide) ?_
          refine lv_iload hx hb dX2_possibleAddresses_33 (lv_at hl 4 rfl) ?_
          refine lv_ishl hx hb dX2_possibleAddresses_35 ?_
          refine lv_ior hx hb dX2_possibleAddresses_36 ?_
          refine lv_topi (fun y_5 ey_5 => ?_)
          refine lv_istore_n (lv' := [(3, .int y_5), (0, .ref o), (1, .int interviewer), (2, .int time), (4, .int x4)]) hx hb dX2_possibleAddresses_37 rfl hl (by decide) rfl (fun ls hl => ?_)
          refine lv_iinc (v := x4 + 1) (lv' := [(4, .int (x4 + 1)), (3, .int y_5), (0, .ref o), (1, .int interviewer), (2, .int time)]) hx hb dX2_possibleAddresses_38 hl (k := 4) rfl (by rfl) (by decide) rfl (fun ls hl => ?_)
          refine lv_goto (tgt := 5) hx hb dX2_possibleAddresses_41 (by decide) ?_
          exact ih_5 y_5 (x4 + 1) _ _ ls hP hD hS (lv_sub hl [2, 3, 4, 1, 0] rfl) (Nat.lt_of_lt_of_le (lp_dec c14) (Nat.le_of_lt_succ hm_5)) ((E_5).trans ((fX2_possibleAddresses_5_s RA RI na dy db interviewer time fu x3 x4).trans ((if_neg c14).trans ((bd1_e hk4).trans ((if_pos (bi_o c28)).trans ((bd1_n ey_5).trans rfl))))))
  exact K_5 ((na.toInt - (0 : Int32).toInt).toNat + 1) 0 0 _ _ ls hP hD hS (lv_sub hl [2, 3, 4, 1, 0] rfl) (Nat.lt_succ_self _) rfl

/-- X2_rankOf from 42 on -/
def fX2_rankOf_42 (RA : Nat → Int32) (RI : Nat → Int32) (RC : Nat → Int32) (dy : Int32) (interviewer : Int32) (address : Int32) (r0 : Int32) (x4 : Int32) : Int32 :=
  bd1 (fX5_ofInterviewer RI interviewer 0) (fun (r_4 : Int32) => (if r_4 = r0 then bd1 ((x4 * 2) + 0) (fun (y_14 : Int32) => bd1 (fX2_wantedInArea RC r0) (fun (r_16 : Int32) => (if r_16 ≤ 0 then bd1 ((y_14 * 2) + 1) (fun (y_17 : Int32) => bd1 (fX5_ofAddress RA address 2) (fun (r_19 : Int32) => (y_17 * 1000000) + (if (999999 : Int32) < r_19 then 999999 else r_19))) else bd1 ((y_14 * 2) + 0) (fun (y_20 : Int32) => bd1 (fX5_ofAddress RA address 2) (fun (r_22 : Int32) => (y_20 * 1000000) + (if (999999 : Int32) < r_22 then 999999 else r_22)))))) else bd1 ((x4 * 2) + 1) (fun (y_5 : Int32) => bd1 (fX2_wantedInArea RC r0) (fun (r_7 : Int32) => (if r_7 ≤ 0 then bd1 ((y_5 * 2) + 1) (fun (y_8 : Int32) => bd1 (fX5_ofAddress RA address 2) (fun (r_10 : Int32) => (y_8 * 1000000) + (if (999999 : Int32) < r_10 then 999999 else r_10))) else bd1 ((y_5 * 2) + 0) (fun (y_11 : Int32) => bd1 (fX5_ofAddress RA address 2) (fun (r_13 : Int32) => (y_11 * 1000000) + (if (999999 : Int32) < r_13 then 999999 else r_13))))))))

/-- the value of X2_rankOf, path by path -/
def fX2_rankOf (RA : Nat → Int32) (RI : Nat → Int32) (RC : Nat → Int32) (dy : Int32) (interviewer : Int32) (address : Int32) : Int32 :=
  bd1 (fX5_ofAddress RA address 0) (fun (r_2 : Int32) => bd1 (fX5_hasMeeting RA address) (fun (r_24 : Bool) => (if r_24 = true then bd1 (fX5_isMeetingOver RA dy address) (fun (r_26 : Bool) => (if r_26 = true then fX2_rankOf_42 RA RI RC dy interviewer address r_2 1 else fX2_rankOf_42 RA RI RC dy interviewer address r_2 0)) else fX2_rankOf_42 RA RI RC dy interviewer address r_2 2)))

set_option maxHeartbeats 4000000 in
set_option maxRecDepth 100000 in
/-- X2_rankOf -/
theorem mX2_rankOf (l : Launch) (D : va_G) (cI cC cS : ClassId) (sz : Nat) (o : Nat) (h : Nat) (t1 : Nat) (t2 : Nat) (t3 : Nat) (a1 : Nat) (a2 : Nat) (a3 : Nat) (RA : Nat → Int32) (RI : Nat → Int32) (RC : Nat → Int32) (na : Int32) (ni : Int32) (dy : Int32) (vl : Int32) (db : Int32) (interviewer : Int32) (address : Int32)  : Met l yX2_rankOf wsX2_rankOf ({ frames := 3, cells := 0, slots := 0, locals := 70 } : Jvm.Room) (va_Pc [.ref o, .int interviewer, .int address] (wPre D (TY cI cC cS) [(o, .inr (1, [.ref h])), (h, .inr (4, [.ref t1, .ref t2, .ref t3, .int na, .int ni, .int dy, .int vl, .int db])), (t1, .inr (5, [.ref a1, .int 10])), (t2, .inr (5, [.ref a2, .int 6])), (t3, .inr (5, [.ref a3, .int 3])), (a1, .inl (cI, 240, .inl RA)), (a2, .inl (cI, 30, .inl RI)), (a3, .inl (cI, 36, .inl RC))] sz wN)) (qI D (TY cI cC cS) (fun (r : Int32) (u : Int32) => fX2_rankOf RA RI RC dy interviewer address = u ∧ r = u) (fun u => [(o, .inr (1, [.ref h])), (h, .inr (4, [.ref t1, .ref t2, .ref t3, .int na, .int ni, .int dy, .int vl, .int db])), (t1, .inr (5, [.ref a1, .int 10])), (t2, .inr (5, [.ref a2, .int 6])), (t3, .inr (5, [.ref a3, .int 3])), (a1, .inl (cI, 240, .inl RA)), (a2, .inl (cI, 30, .inl RI)), (a3, .inl (cI, 36, .inl RC))]) (va_A [(o, .inr (1, [.ref h])), (h, .inr (4, [.ref t1, .ref t2, .ref t3, .int na, .int ni, .int dy, .int vl, .int db])), (t1, .inr (5, [.ref a1, .int 10])), (t2, .inr (5, [.ref a2, .int 6])), (t3, .inr (5, [.ref a3, .int 3])), (a1, .inl (cI, 240, .inl RA)), (a2, .inl (cI, 30, .inl RI)), (a3, .inl (cI, 36, .inl RC))] sz)) 0 0 (va_A [(o, .inr (1, [.ref h])), (h, .inr (4, [.ref t1, .ref t2, .ref t3, .int na, .int ni, .int dy, .int vl, .int db])), (t1, .inr (5, [.ref a1, .int 10])), (t2, .inr (5, [.ref a2, .int 6])), (t3, .inr (5, [.ref a3, .int 3])), (a1, .inl (cI, 240, .inl RA)), (a2, .inl (cI, 30, .inl RI)), (a3, .inl (cI, 36, .inl RC))] sz) := by
  refine mkM (fun Fr => qI D (TY cI cC cS) (fun (r : Int32) (u : Int32) => fX2_rankOf RA RI RC dy interviewer address = u ∧ r = u) (fun u => [(o, .inr (1, [.ref h])), (h, .inr (4, [.ref t1, .ref t2, .ref t3, .int na, .int ni, .int dy, .int vl, .int db])), (t1, .inr (5, [.ref a1, .int 10])), (t2, .inr (5, [.ref a2, .int 6])), (t3, .inr (5, [.ref a3, .int 3])), (a1, .inl (cI, 240, .inl RA)), (a2, .inl (cI, 30, .inl RI)), (a3, .inl (cI, 36, .inl RC))]) Fr) (cc := cX2_rankOf) (maxL := 7) (ret := (some .int)) (own := RX2) (lv := [(0, .ref o), (1, .int interviewer), (2, .int address)]) (by decide) rfl rfl (Nat.le_of_ble_eq_true rfl) rfl ?_
  intro p e s m below meth c Fr ls hx hb hr hts hown hml hlk hin hP hK hD hS hA hAe hsz hX hl
  have w_1 := hts (.fieldLink RX2 9 "FieldQuotas$Overview" "survey" "LFieldQuotas$Survey;") (List.mem_of_getElem? (i := 1) rfl)
  have w_2 := sub_r (big := wsX2_rankOf) (u_ws RX2 TX2 1) [45] rfl
  have w_3 := hts (.constant RX2 107 (1000000)) (List.mem_of_getElem? (i := 2) rfl)
  have w_4 := hts (.constant RX2 108 (999999)) (List.mem_of_getElem? (i := 3) rfl)
  have w_5 := hts (.methodLink RX2 109 Lib.Math.min.name) (List.mem_of_getElem? (i := 4) rfl)
  have w_6 := hts (.static Lib.Math.min.name) (List.mem_of_getElem? (i := 5) rfl)
  have w_7 := hts (.initialized "java/lang/Math") (List.mem_of_getElem? (i := 6) rfl)
  have w_8 := hts (.code Lib.Math.min.name Lib.Math.min.code 2 (some .int)) (List.mem_of_getElem? (i := 7) rfl)
  refine lv_aload_n hx hb dX2_rankOf_0 rfl (lv_at hl 0 rfl) ?_
  refine va_get (D := D) (ci := 1) (C := RX2) (T := TX2) (N := 1) hx hb hts w_2 hown hK hP 0 rfl rfl 0 (by decide) w_1 (fun _ h9 => h9) rfl dX2_rankOf_1 ?_
  refine lv_iload_n hx hb dX2_rankOf_4 rfl (lv_at hl 2 rfl) ?_
  refine lv_iconst (v := 0) hx hb dX2_rankOf_5 (by decide) ?_
  refine callVi (As := [.int address, .int 0]) (rest := []) (mX5_ofAddress l D cI cC cS _ h t1 t2 t3 a1 a2 a3 RA RI RC na ni dy vl db address 0) ⟨hx, hb, hml, hown, hts⟩ (cwV 2 hts gX2_rankOf_X5_ofAddress rfl rfl rfl (by decide +kernel) ⟨Nat.le_of_ble_eq_true rfl, Nat.le_of_ble_eq_true rfl⟩) wN_blind (fun _ _ hW => wN_warm hW hX) hP hK hD hS hA hl [1, 2, 3, 4, 5, 6, 7] rfl rfl 0 4 rfl rfl rfl rfl rfl (Nat.le_of_ble_eq_true rfl) dX2_rankOf_6 ⟨Nat.zero_le _, Nat.zero_le _⟩ (fun _ => rfl) (fun u_ H locs hk2 hP hD hS => ?_)
  obtain ⟨r_2, e_r_2⟩ : ∃ z, z = u_ := ⟨_, rfl⟩
  subst e_r_2
  have hP : va_P D vwCl [(o, .inr (1, [.ref h])), (h, .inr (4, [.ref t1, .ref t2, .ref t3, .int na, .int ni, .int dy, .int vl, .int db])), (t1, .inr (5, [.ref a1, .int 10])), (t2, .inr (5, [.ref a2, .int 6])), (t3, .inr (5, [.ref a3, .int 3])), (a1, .inl (cI, 240, .inl RA)), (a2, .inl (cI, 30, .inl RI)), (a3, .inl (cI, 36, .inl RC))] H := hP
  have hD : va_D Fr [(o, .inr (1, [.ref h])), (h, .inr (4, [.ref t1, .ref t2, .ref t3, .int na, .int ni, .int dy, .int vl, .int db])), (t1, .inr (5, [.ref a1, .int 10])), (t2, .inr (5, [.ref a2, .int 6])), (t3, .inr (5, [.ref a3, .int 3])), (a1, .inl (cI, 240, .inl RA)), (a2, .inl (cI, 30, .inl RI)), (a3, .inl (cI, 36, .inl RC))] := hD
  refine W.eq (g2 := F0 m 9 ls [.int r_2]) rfl ?_
  refine lv_istore_n (lv' := [(3, .int r_2), (0, .ref o), (1, .int interviewer), (2, .int address)]) hx hb dX2_rankOf_9 rfl hl (by decide) rfl (fun ls hl => ?_)
  have K_42 : ∀ (r0 : Int32) (x4 : Int32) (H : Heap) (locs : List Loc) (ls : Array Slot), va_P D vwCl [(o, .inr (1, [.ref h])), (h, .inr (4, [.ref t1, .ref t2, .ref t3, .int na, .int ni, .int dy, .int vl, .int db])), (t1, .inr (5, [.ref a1, .int 10])), (t2, .inr (5, [.ref a2, .int 6])), (t3, .inr (5, [.ref a3, .int 3])), (a1, .inl (cI, 240, .inl RA)), (a2, .inl (cI, 30, .inl RI)), (a3, .inl (cI, 36, .inl RC))] H → va_D Fr [(o, .inr (1, [.ref h])), (h, .inr (4, [.ref t1, .ref t2, .ref t3, .int na, .int ni, .int dy, .int vl, .int db])), (t1, .inr (5, [.ref a1, .int 10])), (t2, .inr (5, [.ref a2, .int 6])), (t3, .inr (5, [.ref a3, .int 3])), (a1, .inl (cI, 240, .inl RA)), (a2, .inl (cI, 30, .inl RI)), (a3, .inl (cI, 36, .inl RC))] → va_S Fr s.heap H locs → lv_has ls 7 [(0, .ref o), (1, .int interviewer), (2, .int address), (3, .int r0), (4, .int x4)] → fX2_rankOf RA RI RC dy interviewer address = fX2_rankOf_42 RA RI RC dy interviewer address r0 x4 → W p l e (headSpec wsX2_rankOf ({ frames := 3, cells := 0, slots := 0, locals := 70 } : Jvm.Room)).room s m ([.ref o, .int interviewer, .int address] : List Value).toArray below meth c H locs 0 0 (MQ below (qI D (TY cI cC cS) (fun (r : Int32) (u : Int32) => fX2_rankOf RA RI RC dy interviewer address = u ∧ r = u) (fun u => [(o, .inr (1, [.ref h])), (h, .inr (4, [.ref t1, .ref t2, .ref t3, .int na, .int ni, .int dy, .int vl, .int db])), (t1, .inr (5, [.ref a1, .int 10])), (t2, .inr (5, [.ref a2, .int 6])), (t3, .inr (5, [.ref a3, .int 3])), (a1, .inl (cI, 240, .inl RA)), (a2, .inl (cI, 30, .inl RI)), (a3, .inl (cI, 36, .inl RC))]) Fr) ([.ref o, .int interviewer, .int address] : List Value).toArray s 0 0 Fr) (F0 m 42 ls []) := by
    intro r0 x4 H locs ls hP hD hS hl  E_42
    refine lv_aload_n hx hb dX2_rankOf_42 rfl (lv_at hl 0 rfl) ?_
    refine va_get (D := D) (ci := 1) (C := RX2) (T := TX2) (N := 1) hx hb hts w_2 hown hK hP 0 rfl rfl 0 (by decide) w_1 (fun _ h9 => h9) rfl dX2_rankOf_43 ?_
    refine lv_iload_n hx hb dX2_rankOf_46 rfl (lv_at hl 1 rfl) ?_
    refine lv_iconst (v := 0) hx hb dX2_rankOf_47 (by decide) ?_
    refine callVi (As := [.int interviewer, .int 0]) (rest := []) (mX5_ofInterviewer l D cI cC cS _ h t1 t2 t3 a1 a2 a3 RA RI RC na ni dy vl db interviewer 0) ⟨hx, hb, hml, hown, hts⟩ (cwV 2 hts gX2_rankOf_X5_ofInterviewer rfl rfl rfl (by decide +kernel) ⟨Nat.le_of_ble_eq_true rfl, Nat.le_of_ble_eq_true rfl⟩) wN_blind (fun _ _ hW => wN_warm hW hX) hP hK hD hS hA hl [1, 2, 3, 4, 5, 6, 7] rfl rfl 0 4 rfl rfl rfl rfl rfl (Nat.le_of_ble_eq_true rfl) dX2_rankOf_48 ⟨Nat.zero_le _, Nat.zero_le _⟩ (fun _ => rfl) (fun u_ H locs hk4 hP hD hS => ?_)
    obtain ⟨r_4, e_r_4⟩ : ∃ z, z = u_ := ⟨_, rfl⟩
    subst e_r_4
    have hP : va_P D vwCl [(o, .inr (1, [.ref h])), (h, .inr (4, [.ref t1, .ref t2, .ref t3, .int na, .int ni, .int dy, .int vl, .int db])), (t1, .inr (5, [.ref a1, .int 10])), (t2, .inr (5, [.ref a2, .int 6])), (t3, .inr (5, [.ref a3, .int 3])), (a1, .inl (cI, 240, .inl RA)), (a2, .inl (cI, 30, .inl RI)), (a3, .inl (cI, 36, .inl RC))] H := hP
    have hD : va_D Fr [(o, .inr (1, [.ref h])), (h, .inr (4, [.ref t1, .ref t2, .ref t3, .int na, .int ni, .int dy, .int vl, .int db])), (t1, .inr (5, [.ref a1, .int 10])), (t2, .inr (5, [.ref a2, .int 6])), (t3, .inr (5, [.ref a3, .int 3])), (a1, .inl (cI, 240, .inl RA)), (a2, .inl (cI, 30, .inl RI)), (a3, .inl (cI, 36, .inl RC))] := hD
    refine W.eq (g2 := F0 m 51 ls [.int r_4]) rfl ?_
    refine lv_iload_n hx hb dX2_rankOf_51 rfl (lv_at hl 3 rfl) ?_
    refine lv_icmp_ne (tgt := 59) hx hb dX2_rankOf_52 (by decide) (fun c52 => ?_) (fun c52 => ?_)
    · refine lv_iconst (v := 0) hx hb dX2_rankOf_59 (by decide) ?_
      refine lv_istore (lv' := [(5, .int 0), (0, .ref o), (1, .int interviewer), (2, .int address), (3, .int r0), (4, .int x4)]) hx hb dX2_rankOf_60 hl (by decide) rfl (fun ls hl => ?_)
      refine lv_iload hx hb dX2_rankOf_62 (lv_at hl 5 rfl) ?_
      refine lv_iconst (v := 2) hx hb dX2_rankOf_64 (by decide) ?_
      refine lv_imul hx hb dX2_rankOf_65 ?_
      refine lv_iload hx hb dX2_rankOf_66 (lv_at hl 0 rfl) ?_
      refine lv_if_eq (tgt := 75) hx hb dX2_rankOf_68 (by decide) (fun _ => ?_) (fun h => absurd (by decide) h)
      refine lv_iconst (v := 1) hx hb dX2_rankOf_75 (by decide) ?_
      refine lv_iadd hx hb dX2_rankOf_76 ?_
      refine lv_topi (fun y_5 ey_5 => ?_)
      refine lv_istore (lv' := [(4, .int y_5), (5, .int 0), (0, .ref o), (1, .int interviewer), (2, .int address), (3, .int r0)]) hx hb dX2_rankOf_77 hl (by decide) rfl (fun ls hl => ?_)
      refine lv_iload hx hb dX2_rankOf_79 (lv_at hl 0 rfl) ?_
      refine lv_iconst (v := 2) hx hb dX2_rankOf_81 (by decide) ?_
      refine lv_imul hx hb dX2_rankOf_82 ?_
      refine lv_aload_n hx hb dX2_rankOf_83 rfl (lv_at hl 2 rfl) ?_
      refine lv_iload_n hx hb dX2_rankOf_84 rfl (lv_at hl 5 rfl) ?_
      refine callVi (As := [.int r0]) (rest := [.int (y_5 * 2)]) (mX2_wantedInArea l D cI cC cS _ o h t1 t2 t3 a1 a2 a3 RA RI RC na ni dy vl db r0) ⟨hx, hb, hml, hown, hts⟩ (cwV 1 hts gX2_rankOf_X2_wantedInArea rfl rfl rfl (by decide +kernel) ⟨Nat.le_of_ble_eq_true rfl, Nat.le_of_ble_eq_true rfl⟩) wN_blind (fun _ _ hW => wN_warm hW hX) hP hK hD hS hA hl [0, 1, 2, 3, 4, 5, 6, 7] rfl rfl 0 1 rfl rfl rfl rfl rfl (Nat.le_of_ble_eq_true rfl) dX2_rankOf_85 ⟨Nat.zero_le _, Nat.zero_le _⟩ (fun _ => rfl) (fun u_ H locs hk7 hP hD hS => ?_)
      obtain ⟨r_7, e_r_7⟩ : ∃ z, z = u_ := ⟨_, rfl⟩
      subst e_r_7
      have hP : va_P D vwCl [(o, .inr (1, [.ref h])), (h, .inr (4, [.ref t1, .ref t2, .ref t3, .int na, .int ni, .int dy, .int vl, .int db])), (t1, .inr (5, [.ref a1, .int 10])), (t2, .inr (5, [.ref a2, .int 6])), (t3, .inr (5, [.ref a3, .int 3])), (a1, .inl (cI, 240, .inl RA)), (a2, .inl (cI, 30, .inl RI)), (a3, .inl (cI, 36, .inl RC))] H := hP
      have hD : va_D Fr [(o, .inr (1, [.ref h])), (h, .inr (4, [.ref t1, .ref t2, .ref t3, .int na, .int ni, .int dy, .int vl, .int db])), (t1, .inr (5, [.ref a1, .int 10])), (t2, .inr (5, [.ref a2, .int 6])), (t3, .inr (5, [.ref a3, .int 3])), (a1, .inl (cI, 240, .inl RA)), (a2, .inl (cI, 30, .inl RI)), (a3, .inl (cI, 36, .inl RC))] := hD
      refine W.eq (g2 := F0 m 88 ls [.int r_7, .int (y_5 * 2)]) rfl ?_
      refine lv_if_le (tgt := 95) hx hb dX2_rankOf_88 (by decide) (fun c88 => ?_) (fun c88 => ?_)
      · refine lv_iconst (v := 1) hx hb dX2_rankOf_95 (by decide) ?_
        refine lv_iadd hx hb dX2_rankOf_96 ?_
        refine lv_topi (fun y_8 ey_8 => ?_)
        refine lv_istore (lv' := [(4, .int y_8), (5, .int 0), (0, .ref o), (1, .int interviewer), (2, .int address), (3, .int r0)]) hx hb dX2_rankOf_97 hl (by decide) rfl (fun ls hl => ?_)
        refine lv_aload_n hx hb dX2_rankOf_99 rfl (lv_at hl 2 rfl) ?_
        refine va_get (D := D) (ci := 1) (C := RX2) (T := TX2) (N := 1) hx hb hts w_2 hown hK hP 0 rfl rfl 0 (by decide) w_1 (fun _ h9 => h9) rfl dX2_rankOf_100 ?_
        refine lv_iload_n hx hb dX2_rankOf_103 rfl (lv_at hl 4 rfl) ?_
        refine lv_iconst (v := 2) hx hb dX2_rankOf_104 (by decide) ?_
        refine callVi (As := [.int address, .int 2]) (rest := []) (mX5_ofAddress l D cI cC cS _ h t1 t2 t3 a1 a2 a3 RA RI RC na ni dy vl db address 2) ⟨hx, hb, hml, hown, hts⟩ (cwV 2 hts gX2_rankOf_X5_ofAddress rfl rfl rfl (by decide +kernel) ⟨Nat.le_of_ble_eq_true rfl, Nat.le_of_ble_eq_true rfl⟩) wN_blind (fun _ _ hW => wN_warm hW hX) hP hK hD hS hA hl [1, 2, 3, 4, 5, 6, 7] rfl rfl 0 4 rfl rfl rfl rfl rfl (Nat.le_of_ble_eq_true rfl) dX2_rankOf_105 ⟨Nat.zero_le _, Nat.zero_le _⟩ (fun _ => rfl) (fun u_ H locs hk10 hP hD hS => ?_)
        obtain ⟨r_10, e_r_10⟩ : ∃ z, z = u_ := ⟨_, rfl⟩
        subst e_r_10
        have hP : va_P D vwCl [(o, .inr (1, [.ref h])), (h, .inr (4, [.ref t1, .ref t2, .ref t3, .int na, .int ni, .int dy, .int vl, .int db])), (t1, .inr (5, [.ref a1, .int 10])), (t2, .inr (5, [.ref a2, .int 6])), (t3, .inr (5, [.ref a3, .int 3])), (a1, .inl (cI, 240, .inl RA)), (a2, .inl (cI, 30, .inl RI)), (a3, .inl (cI, 36, .inl RC))] H := hP
        have hD : va_D Fr [(o, .inr (1, [.ref h])), (h, .inr (4, [.ref t1, .ref t2, .ref t3, .int na, .int ni, .int dy, .int vl, .int db])), (t1, .inr (5, [.ref a1, .int 10])), (t2, .inr (5, [.ref a2, .int 6])), (t3, .inr (5, [.ref a3, .int 3])), (a1, .inl (cI, 240, .inl RA)), (a2, .inl (cI, 30, .inl RI)), (a3, .inl (cI, 36, .inl RC))] := hD
        refine W.eq (g2 := F0 m 108 ls [.int r_10]) rfl ?_
        refine lv_istore (lv' := [(6, .int r_10), (4, .int y_8), (5, .int 0), (0, .ref o), (1, .int interviewer), (2, .int address), (3, .int r0)]) hx hb dX2_rankOf_108 hl (by decide) rfl (fun ls hl => ?_)
        refine lv_iload hx hb dX2_rankOf_110 (lv_at hl 1 rfl) ?_
        refine lv_ldc hx hb hown w_3 dX2_rankOf_112 ?_
        refine lv_imul hx hb dX2_rankOf_114 ?_
        refine lv_iload hx hb dX2_rankOf_115 (lv_at hl 0 rfl) ?_
        refine lv_ldc hx hb hown w_4 dX2_rankOf_117 ?_
        refine va_mmin hx hb (by rw [hml]; exact hl.1.symm) hown w_5 w_6 w_7 w_8 (Nat.le_of_ble_eq_true rfl) (Nat.le_of_ble_eq_true rfl) (Nat.zero_le _) (Nat.zero_le _) dX2_rankOf_119 ?_
        refine lv_iadd hx hb dX2_rankOf_122 ?_
        exact endI hx hb hr hlk hP hK hD hS dX2_rankOf_123 ((y_8 * 1000000) + (if (999999 : Int32) < r_10 then 999999 else r_10)) rfl ⟨(E_42).trans ((bd1_e hk4).trans ((if_neg c52).trans ((bd1_n ey_5).trans ((bd1_e hk7).trans ((if_pos c88).trans ((bd1_n ey_8).trans ((bd1_e hk10).trans rfl))))))), rfl⟩
      · refine lv_iconst (v := 0) hx hb dX2_rankOf_91 (by decide) ?_
        refine lv_goto (tgt := 96) hx hb dX2_rankOf_92 (by decide) ?_
        refine lv_iadd hx hb dX2_rankOf_96 ?_
        refine lv_topi (fun y_11 ey_11 => ?_)
        refine lv_istore (lv' := [(4, .int y_11), (5, .int 0), (0, .ref o), (1, .int interviewer), (2, .int address), (3, .int r0)]) hx hb dX2_rankOf_97 hl (by decide) rfl (fun ls hl => ?_)
        refine lv_aload_n hx hb dX2_rankOf_99 rfl (lv_at hl 2 rfl) ?_
        refine va_get (D := D) (ci := 1) (C := RX2) (T := TX2) (N := 1) hx hb hts w_2 hown hK hP 0 rfl rfl 0 (by decide) w_1 (fun _ h9 => h9) rfl dX2_rankOf_100 ?_
        refine lv_iload_n hx hb dX2_rankOf_103 rfl (lv_at hl 4 rfl) ?_
        refine lv_iconst (v := 2) hx hb dX2_rankOf_104 (by decide) ?_
        refine callVi (As := [.int address, .int 2]) (rest := []) (mX5_ofAddress l D cI cC cS _ h t1 t2 t3 a1 a2 a3 RA RI RC na ni dy vl db address 2) ⟨hx, hb, hml, hown, hts⟩ (cwV 2 hts gX2_rankOf_X5_ofAddress rfl rfl rfl (by decide +kernel) ⟨Nat.le_of_ble_eq_true rfl, Nat.le_of_ble_eq_true rfl⟩) wN_blind (fun _ _ hW => wN_warm hW hX) hP hK hD hS hA hl [1, 2, 3, 4, 5, 6, 7] rfl rfl 0 4 rfl rfl rfl rfl rfl (Nat.le_of_ble_eq_true rfl) dX2_rankOf_105 ⟨Nat.zero_le _, Nat.zero_le _⟩ (fun _ => rfl) (fun u_ H locs hk13 hP hD hS => ?_)
        obtain ⟨r_13, e_r_13⟩ : ∃ z, z = u_ := ⟨_, rfl⟩
        subst e_r_13
        have hP : va_P D vwCl [(o, .inr (1, [.ref h])), (h, .inr (4, [.ref t1, .ref t2, .ref t3, .int na, .int ni, .int dy, .int vl, .int db])), (t1, .inr (5, [.ref a1, .int 10])), (t2, .inr (5, [.ref a2, .int 6])), (t3, .inr (5, [.ref a3, .int 3])), (a1, .inl (cI, 240, .inl RA)), (a2, .inl (cI, 30, .inl RI)), (a3, .inl (cI, 36, .inl RC))] H := hP
        have hD : va_D Fr [(o, .inr (1, [.ref h])), (h, .inr (4, [.ref t1, .ref t2, .ref t3, .int na, .int ni, .int dy, .int vl, .int db])), (t1, .inr (5, [.ref a1, .int 10])), (t2, .inr (5, [.ref a2, .int 6])), (t3, .inr (5, [.ref a3, .int 3])), (a1, .inl (cI, 240, .inl RA)), (a2, .inl (cI, 30, .inl RI)), (a3, .inl (cI, 36, .inl RC))] := hD
        refine W.eq (g2 := F0 m 108 ls [.int r_13]) rfl ?_
        refine lv_istore (lv' := [(6, .int r_13), (4, .int y_11), (5, .int 0), (0, .ref o), (1, .int interviewer), (2, .int address), (3, .int r0)]) hx hb dX2_rankOf_108 hl (by decide) rfl (fun ls hl => ?_)
        refine lv_iload hx hb dX2_rankOf_110 (lv_at hl 1 rfl) ?_
        refine lv_ldc hx hb hown w_3 dX2_rankOf_112 ?_
        refine lv_imul hx hb dX2_rankOf_114 ?_
        refine lv_iload hx hb dX2_rankOf_115 (lv_at hl 0 rfl) ?_
        refine lv_ldc hx hb hown w_4 dX2_rankOf_117 ?_
        refine va_mmin hx hb (by rw [hml]; exact hl.1.symm) hown w_5 w_6 w_7 w_8 (Nat.le_of_ble_eq_true rfl) (Nat.le_of_ble_eq_true rfl) (Nat.zero_le _) (Nat.zero_le _) dX2_rankOf_119 ?_
        refine lv_iadd hx hb dX2_rankOf_122 ?_
        exact endI hx hb hr hlk hP hK hD hS dX2_rankOf_123 ((y_11 * 1000000) + (if (999999 : Int32) < r_13 then 999999 else r_13)) rfl ⟨(E_42).trans ((bd1_e hk4).trans ((if_neg c52).trans ((bd1_n ey_5).trans ((bd1_e hk7).trans ((if_neg c88).trans ((bd1_n ey_11).trans ((bd1_e hk13).trans rfl))))))), rfl⟩
    · refine lv_iconst (v := 1) hx hb dX2_rankOf_55 (by decide) ?_
      refine lv_goto (tgt := 60) hx hb dX2_rankOf_56 (by decide) ?_
      refine lv_istore (lv' := [(5, .int 1), (0, .ref o), (1, .int interviewer), (2, .int address), (3, .int r0), (4, .int x4)]) hx hb dX2_rankOf_60 hl (by decide) rfl (fun ls hl => ?_)
      refine lv_iload hx hb dX2_rankOf_62 (lv_at hl 5 rfl) ?_
      refine lv_iconst (v := 2) hx hb dX2_rankOf_64 (by decide) ?_
      refine lv_imul hx hb dX2_rankOf_65 ?_
      refine lv_iload hx hb dX2_rankOf_66 (lv_at hl 0 rfl) ?_
      refine lv_if_eq (tgt := 75) hx hb dX2_rankOf_68 (by decide) (fun h => absurd h (by decide)) (fun _ => ?_)
      refine lv_iconst (v := 0) hx hb dX2_rankOf_71 (by decide) ?_
      refine lv_goto (tgt := 76) hx hb dX2_rankOf_72 (by decide) ?_
      refine lv_iadd hx hb dX2_rankOf_76 ?_
      refine lv_topi (fun y_14 ey_14 => ?_)
      refine lv_istore (lv' := [(4, .int y_14), (5, .int 1), (0, .ref o), (1, .int interviewer), (2, .int address), (3, .int r0)]) hx hb dX2_rankOf_77 hl (by decide) rfl (fun ls hl => ?_)
      refine lv_iload hx hb dX2_rankOf_79 (lv_at hl 0 rfl) ?_
      refine lv_iconst (v := 2) hx hb dX2_rankOf_81 (by decide) ?_
      refine lv_imul hx hb dX2_rankOf_82 ?_
      refine lv_aload_n hx hb dX2_rankOf_83 rfl (lv_at hl 2 rfl) ?_
      refine lv_iload_n hx hb dX2_rankOf_84 rfl (lv_at hl 5 rfl) ?_
      refine callVi (As := [.int r0]) (rest := [.int (y_14 * 2)]) (mX2_wantedInArea l D cI cC cS _ o h t1 t2 t3 a1 a2 a3 RA RI RC na ni dy vl db r0) ⟨hx, hb, hml, hown, hts⟩ (cwV 1 hts gX2_rankOf_X2_wantedInArea rfl rfl rfl (by decide +kernel) ⟨Nat.le_of_ble_eq_true rfl, Nat.le_of_ble_eq_true rfl⟩) wN_blind (fun _ _ hW => wN_warm hW hX) hP hK hD hS hA hl [0, 1, 2, 3, 4, 5, 6, 7] rfl rfl 0 1 rfl rfl rfl rfl rfl (Nat.le_of_ble_eq_true rfl) dX2_rankOf_85 ⟨Nat.zero_le _, Nat.zero_le _⟩ (fun _ => rfl) (fun u_ H locs hk16 hP hD hS => ?_)
      obtain ⟨r_16, e_r_16⟩ : ∃ z, z = u_ := ⟨_, rfl⟩
      subst e_r_16
      have hP : va_P D vwCl [(o, .inr (1, [.ref h])), (h, .inr (4, [.ref t1, .ref t2, .ref t3, .int na, .int ni, .int dy, .int vl, .int db])), (t1, .inr (5, [.ref a1, .int 10])), (t2, .inr (5, [.ref a2, .int 6])), (t3, .inr (5, [.ref a3, .int 3])), (a1, .inl (cI, 240, .inl RA)), (a2, .inl (cI, 30, .inl RI)), (a3, .inl (cI, 36, .inl RC))] H := hP
      have hD : va_D Fr [(o, .inr (1, [.ref h])), (h, .inr (4, [.ref t1, .ref t2, .ref t3, .int na, .int ni, .int dy, .int vl, .int db])), (t1, .inr (5, [.ref a1, .int 10])), (t2, .inr (5, [.ref a2, .int 6])), (t3, .inr (5, [.ref a3, .int 3])), (a1, .inl (cI, 240, .inl RA)), (a2, .inl (cI, 30, .inl RI)), (a3, .inl (cI, 36, .inl RC))] := hD
      refine W.eq (g2 := F0 m 88 ls [.int r_16, .int (y_14 * 2)]) rfl ?_
      refine lv_if_le (tgt := 95) hx hb dX2_rankOf_88 (by decide) (fun c88 => ?_) (fun c88 => ?_)
      · refine lv_iconst (v := 1) hx hb dX2_rankOf_95 (by decide) ?_
        refine lv_iadd hx hb dX2_rankOf_96 ?_
        refine lv_topi (fun y_17 ey_17 => ?_)
        refine lv_istore (lv' := [(4, .int y_17), (5, .int 1), (0, .ref o), (1, .int interviewer), (2, .int address), (3, .int r0)]) hx hb dX2_rankOf_97 hl (by decide) rfl (fun ls hl => ?_)
        refine lv_aload_n hx hb dX2_rankOf_99 rfl (lv_at hl 2 rfl) ?_
        refine va_get (D := D) (ci := 1) (C := RX2) (T := TX2) (N := 1) hx hb hts w_2 hown hK hP 0 rfl rfl 0 (by decide) w_1 (fun _ h9 => h9) rfl dX2_rankOf_100 ?_
        refine lv_iload_n hx hb dX2_rankOf_103 rfl (lv_at hl 4 rfl) ?_
        refine lv_iconst (v := 2) hx hb dX2_rankOf_104 (by decide) ?_
        refine callVi (As := [.int address, .int 2]) (rest := []) (mX5_ofAddress l D cI cC cS _ h t1 t2 t3 a1 a2 a3 RA RI RC na ni dy vl db address 2) ⟨hx, hb, hml, hown, hts⟩ (cwV 2 hts gX2_rankOf_X5_ofAddress rfl rfl rfl (by decide +kernel) ⟨Nat.le_of_ble_eq_true rfl, Nat.le_of_ble_eq_true rfl⟩) wN_blind (fun _ _ hW => wN_warm hW hX) hP hK hD hS hA hl [1, 2, 3, 4, 5, 6, 7] rfl rfl 0 4 rfl rfl rfl rfl rfl (Nat.le_of_ble_eq_true rfl) dX2_rankOf_105 ⟨Nat.zero_le _, Nat.zero_le _⟩ (fun _ => rfl) (fun u_ H locs hk19 hP hD hS => ?_)
        obtain ⟨r_19, e_r_19⟩ : ∃ z, z = u_ := ⟨_, rfl⟩
        subst e_r_19
        have hP : va_P D vwCl [(o, .inr (1, [.ref h])), (h, .inr (4, [.ref t1, .ref t2, .ref t3, .int na, .int ni, .int dy, .int vl, .int db])), (t1, .inr (5, [.ref a1, .int 10])), (t2, .inr (5, [.ref a2, .int 6])), (t3, .inr (5, [.ref a3, .int 3])), (a1, .inl (cI, 240, .inl RA)), (a2, .inl (cI, 30, .inl RI)), (a3, .inl (cI, 36, .inl RC))] H := hP
        have hD : va_D Fr [(o, .inr (1, [.ref h])), (h, .inr (4, [.ref t1, .ref t2, .ref t3, .int na, .int ni, .int dy, .int vl, .int db])), (t1, .inr (5, [.ref a1, .int 10])), (t2, .inr (5, [.ref a2, .int 6])), (t3, .inr (5, [.ref a3, .int 3])), (a1, .inl (cI, 240, .inl RA)), (a2, .inl (cI, 30, .inl RI)), (a3, .inl (cI, 36, .inl RC))] := hD
        refine W.eq (g2 := F0 m 108 ls [.int r_19]) rfl ?_
        refine lv_istore (lv' := [(6, .int r_19), (4, .int y_17), (5, .int 1), (0, .ref o), (1, .int interviewer), (2, .int address), (3, .int r0)]) hx hb dX2_rankOf_108 hl (by decide) rfl (fun ls hl => ?_)
        refine lv_iload hx hb dX2_rankOf_110 (lv_at hl 1 rfl) ?_
        refine lv_ldc hx hb hown w_3 dX2_rankOf_112 ?_
        refine lv_imul hx hb dX2_rankOf_114 ?_
        refine lv_iload hx hb dX2_rankOf_115 (lv_at hl 0 rfl) ?_
        refine lv_ldc hx hb hown w_4 dX2_rankOf_117 ?_
        refine va_mmin hx hb (by rw [hml]; exact hl.1.symm) hown w_5 w_6 w_7 w_8 (Nat.le_of_ble_eq_true rfl) (Nat.le_of_ble_eq_true rfl) (Nat.zero_le _) (Nat.zero_le _) dX2_rankOf_119 ?_
        refine lv_iadd hx hb dX2_rankOf_122 ?_
        exact endI hx hb hr hlk hP hK hD hS dX2_rankOf_123 ((y_17 * 1000000) + (if (999999 : Int32) < r_19 then 999999 else r_19)) rfl ⟨(E_42).trans ((bd1_e hk4).trans ((if_pos c52).trans ((bd1_n ey_14).trans ((bd1_e hk16).trans ((if_pos c88).trans ((bd1_n ey_17).trans ((bd1_e hk19).trans rfl))))))), rfl⟩
      · refine lv_iconst (v := 0) hx hb dX2_rankOf_91 (by decide) ?_
        refine lv_goto (tgt := 96) hx hb dX2_rankOf_92 (by decide) ?_
        refine lv_iadd hx hb dX2_rankOf_96 ?_
        refine lv_topi (fun y_20 ey_20 => ?_)
        refine lv_istore (lv' := [(4, .int y_20), (5, .int 1), (0, .ref o), (1, .int interviewer), (2, .int address), (3, .int r0)]) hx hb dX2_rankOf_97 hl (by decide) rfl (fun ls hl => ?_)
        refine lv_aload_n hx hb dX2_rankOf_99 rfl (lv_at hl 2 rfl) ?_
        refine va_get (D := D) (ci := 1) (C := RX2) (T := TX2) (N := 1) hx hb hts w_2 hown hK hP 0 rfl rfl 0 (by decide) w_1 (fun _ h9 => h9) rfl dX2_rankOf_100 ?_
        refine lv_iload_n hx hb dX2_rankOf_103 rfl (lv_at hl 4 rfl) ?_
        refine lv_iconst (v := 2) hx hb dX2_rankOf_104 (by decide) ?_
        refine callVi (As := [.int address, .int 2]) (rest := []) (mX5_ofAddress l D cI cC cS _ h t1 t2 t3 a1 a2 a3 RA RI RC na ni dy vl db address 2) ⟨hx, hb, hml, hown, hts⟩ (cwV 2 hts gX2_rankOf_X5_ofAddress rfl rfl rfl (by decide +kernel) ⟨Nat.le_of_ble_eq_true rfl, Nat.le_of_ble_eq_true rfl⟩) wN_blind (fun _ _ hW => wN_warm hW hX) hP hK hD hS hA hl [1, 2, 3, 4, 5, 6, 7] rfl rfl 0 4 rfl rfl rfl rfl rfl (Nat.le_of_ble_eq_true rfl) dX2_rankOf_105 ⟨Nat.zero_le _, Nat.zero_le _⟩ (fun _ => rfl) (fun u_ H locs hk22 hP hD hS => ?_)
        obtain ⟨r_22, e_r_22⟩ : ∃ z, z = u_ := ⟨_, rfl⟩
        subst e_r_22
        have hP : va_P D vwCl [(o, .inr (1, [.ref h])), (h, .inr (4, [.ref t1, .ref t2, .ref t3, .int na, .int ni, .int dy, .int vl, .int db])), (t1, .inr (5, [.ref a1, .int 10])), (t2, .inr (5, [.ref a2, .int 6])), (t3, .inr (5, [.ref a3, .int 3])), (a1, .inl (cI, 240, .inl RA)), (a2, .inl (cI, 30, .inl RI)), (a3, .inl (cI, 36, .inl RC))] H := hP
        have hD : va_D Fr [(o, .inr (1, [.ref h])), (h, .inr (4, [.ref t1, .ref t2, .ref t3, .int na, .int ni, .int dy, .int vl, .int db])), (t1, .inr (5, [.ref a1, .int 10])), (t2, .inr (5, [.ref a2, .int 6])), (t3, .inr (5, [.ref a3, .int 3])), (a1, .inl (cI, 240, .inl RA)), (a2, .inl (cI, 30, .inl RI)), (a3, .inl (cI, 36, .inl RC))] := hD
        refine W.eq (g2 := F0 m 108 ls [.int r_22]) rfl ?_
        refine lv_istore (lv' := [(6, .int r_22), (4, .int y_20), (5, .int 1), (0, .ref o), (1, .int interviewer), (2, .int address), (3, .int r0)]) hx hb dX2_rankOf_108 hl (by decide) rfl (fun ls hl => ?_)
        refine lv_iload hx hb dX2_rankOf_110 (lv_at hl 1 rfl) ?_
        refine lv_ldc hx hb hown w_3 dX2_rankOf_112 ?_
        refine lv_imul hx hb dX2_rankOf_114 ?_
        refine lv_iload hx hb dX2_rankOf_115 (lv_at hl 0 rfl) ?_
        refine lv_ldc hx hb hown w_4 dX2_rankOf_117 ?_
        refine va_mmin hx hb (by rw [hml]; exact hl.1.symm) hown w_5 w_6 w_7 w_8 (Nat.le_of_ble_eq_true rfl) (Nat.le_of_ble_eq_true rfl) (Nat.zero_le _) (Nat.zero_le _) dX2_rankOf_119 ?_
        refine lv_iadd hx hb dX2_rankOf_122 ?_
        exact endI hx hb hr hlk hP hK hD hS dX2_rankOf_123 ((y_20 * 1000000) + (if (999999 : Int32) < r_22 then 999999 else r_22)) rfl ⟨(E_42).trans ((bd1_e hk4).trans ((if_pos c52).trans ((bd1_n ey_14).trans ((bd1_e hk16).trans ((if_neg c88).trans ((bd1_n ey_20).trans ((bd1_e hk22).trans rfl))))))), rfl⟩
  refine lv_iconst (v := 2) hx hb dX2_rankOf_10 (by decide) ?_
  refine lv_istore (lv' := [(4, .int 2), (3, .int r_2), (0, .ref o), (1, .int interviewer), (2, .int address)]) hx hb dX2_rankOf_11 hl (by decide) rfl (fun ls hl => ?_)
  refine lv_aload_n hx hb dX2_rankOf_13 rfl (lv_at hl 2 rfl) ?_
  refine va_get (D := D) (ci := 1) (C := RX2) (T := TX2) (N := 1) hx hb hts w_2 hown hK hP 0 rfl rfl 0 (by decide) w_1 (fun _ h9 => h9) rfl dX2_rankOf_14 ?_
  refine lv_iload_n hx hb dX2_rankOf_17 rfl (lv_at hl 4 rfl) ?_
  refine callVi (As := [.int address]) (rest := []) (mX5_hasMeeting l D cI cC cS _ h t1 t2 t3 a1 a2 a3 RA RI RC na ni dy vl db address) ⟨hx, hb, hml, hown, hts⟩ (cwV 1 hts gX2_rankOf_X5_hasMeeting rfl rfl rfl (by decide +kernel) ⟨Nat.le_of_ble_eq_true rfl, Nat.le_of_ble_eq_true rfl⟩) wN_blind (fun _ _ hW => wN_warm hW hX) hP hK hD hS hA hl [1, 2, 3, 4, 5, 6, 7] rfl rfl 0 4 rfl rfl rfl rfl rfl (Nat.le_of_ble_eq_true rfl) dX2_rankOf_18 ⟨Nat.zero_le _, Nat.zero_le _⟩ (fun _ => rfl) (fun u_ H locs hk24 hP hD hS => ?_)
  obtain ⟨r_24, e_r_24⟩ : ∃ z, z = u_ := ⟨_, rfl⟩
  subst e_r_24
  have hP : va_P D vwCl [(o, .inr (1, [.ref h])), (h, .inr (4, [.ref t1, .ref t2, .ref t3, .int na, .int ni, .int dy, .int vl, .int db])), (t1, .inr (5, [.ref a1, .int 10])), (t2, .inr (5, [.ref a2, .int 6])), (t3, .inr (5, [.ref a3, .int 3])), (a1, .inl (cI, 240, .inl RA)), (a2, .inl (cI, 30, .inl RI)), (a3, .inl (cI, 36, .inl RC))] H := hP
  have hD : va_D Fr [(o, .inr (1, [.ref h])), (h, .inr (4, [.ref t1, .ref t2, .ref t3, .int na, .int ni, .int dy, .int vl, .int db])), (t1, .inr (5, [.ref a1, .int 10])), (t2, .inr (5, [.ref a2, .int 6])), (t3, .inr (5, [.ref a3, .int 3])), (a1, .inl (cI, 240, .inl RA)), (a2, .inl (cI, 30, .inl RI)), (a3, .inl (cI, 36, .inl RC))] := hD
  refine W.eq (g2 := F0 m 21 ls [.int (bi r_24)]) rfl ?_
  refine lv_if_eq (tgt := 42) hx hb dX2_rankOf_21 (by decide) (fun c21 => ?_) (fun c21 => ?_)
  · exact K_42 r_2 2 _ _ ls hP hD hS (lv_sub hl [2, 3, 4, 1, 0] rfl) ((bd1_e hk2).trans ((bd1_e hk24).trans ((if_neg (bi_z c21)).trans rfl)))
  · refine lv_aload_n hx hb dX2_rankOf_24 rfl (lv_at hl 2 rfl) ?_
    refine va_get (D := D) (ci := 1) (C := RX2) (T := TX2) (N := 1) hx hb hts w_2 hown hK hP 0 rfl rfl 0 (by decide) w_1 (fun _ h9 => h9) rfl dX2_rankOf_25 ?_
    refine lv_iload_n hx hb dX2_rankOf_28 rfl (lv_at hl 4 rfl) ?_
    refine callVi (As := [.int address]) (rest := []) (mX5_isMeetingOver l D cI cC cS _ h t1 t2 t3 a1 a2 a3 RA RI RC na ni dy vl db address) ⟨hx, hb, hml, hown, hts⟩ (cwV 1 hts gX2_rankOf_X5_isMeetingOver rfl rfl rfl (by decide +kernel) ⟨Nat.le_of_ble_eq_true rfl, Nat.le_of_ble_eq_true rfl⟩) wN_blind (fun _ _ hW => wN_warm hW hX) hP hK hD hS hA hl [1, 2, 3, 4, 5, 6, 7] rfl rfl 0 4 rfl rfl rfl rfl rfl (Nat.le_of_ble_eq_true rfl) dX2_rankOf_29 ⟨Nat.zero_le _, Nat.zero_le _⟩ (fun _ => rfl) (fun u_ H locs hk26 hP hD hS => ?_)
    obtain ⟨r_26, e_r_26⟩ : ∃ z, z = u_ := ⟨_, rfl⟩
    subst e_r_26
    have hP : va_P D vwCl [(o, .inr (1, [.ref h])), (h, .inr (4, [.ref t1, .ref t2, .ref t3, .int na, .int ni, .int dy, .int vl, .int db])), (t1, .inr (5, [.ref a1, .int 10])), (t2, .inr (5, [.ref a2, .int 6])), (t3, .inr (5, [.ref a3, .int 3])), (a1, .inl (cI, 240, .inl RA)), (a2, .inl (cI, 30, .inl RI)), (a3, .inl (cI, 36, .inl RC))] H := hP
    have hD : va_D Fr [(o, .inr (1, [.ref h])), (h, .inr (4, [.ref t1, .ref t2, .ref t3, .int na, .int ni, .int dy, .int vl, .int db])), (t1, .inr (5, [.ref a1, .int 10])), (t2, .inr (5, [.ref a2, .int 6])), (t3, .inr (5, [.ref a3, .int 3])), (a1, .inl (cI, 240, .inl RA)), (a2, .inl (cI, 30, .inl RI)), (a3, .inl (cI, 36, .inl RC))] := hD
    refine W.eq (g2 := F0 m 32 ls [.int (bi r_26)]) rfl ?_
    refine lv_if_eq (tgt := 39) hx hb dX2_rankOf_32 (by decide) (fun c32 => ?_) (fun c32 => ?_)
    · refine lv_iconst (v := 0) hx hb dX2_rankOf_39 (by decide) ?_
      refine lv_istore (lv' := [(4, .int 0), (3, .int r_2), (0, .ref o), (1, .int interviewer), (2, .int address)]) hx hb dX2_rankOf_40 hl (by decide) rfl (fun ls hl => ?_)
      exact K_42 r_2 0 _ _ ls hP hD hS (lv_sub hl [2, 3, 4, 1, 0] rfl) ((bd1_e hk2).trans ((bd1_e hk24).trans ((if_pos (bi_o c21)).trans ((bd1_e hk26).trans ((if_neg (bi_z c32)).trans rfl)))))
    · refine lv_iconst (v := 1) hx hb dX2_rankOf_35 (by decide) ?_
      refine lv_goto (tgt := 40) hx hb dX2_rankOf_36 (by decide) ?_
      refine lv_istore (lv' := [(4, .int 1), (3, .int r_2), (0, .ref o), (1, .int interviewer), (2, .int address)]) hx hb dX2_rankOf_40 hl (by decide) rfl (fun ls hl => ?_)
      exact K_42 r_2 1 _ _ ls hP hD hS (lv_sub hl [2, 3, 4, 1, 0] rfl) ((bd1_e hk2).trans ((bd1_e hk24).trans ((if_pos (bi_o c21)).trans ((bd1_e hk26).trans ((if_pos (bi_o c32)).trans rfl)))))

/-- the loop of X2_bestAddress at 9 -/
def fX2_bestAddress_9 (RA : Nat → Int32) (RI : Nat → Int32) (RC : Nat → Int32) (na : Int32) (dy : Int32) (db : Int32) (interviewer : Int32) (time : Int32) : Nat → Int32 → Int32 → Int32 → Int32
  | 0, _, _, _ => default
  | fu + 1, x3, x4, x5 =>
    (if na ≤ x5 then x3 else bd1 (fX5_isPossible RA RI dy db interviewer x5 time) (fun (r_4 : Bool) => (if r_4 = true then bd1 (fX2_rankOf RA RI RC dy interviewer x5) (fun (r_6 : Int32) => (if x3 = (-4) then fX2_bestAddress_9 RA RI RC na dy db interviewer time fu x5 r_6 (x5 + 1) else (if x4 ≤ r_6 then fX2_bestAddress_9 RA RI RC na dy db interviewer time fu x3 x4 (x5 + 1) else fX2_bestAddress_9 RA RI RC na dy db interviewer time fu x5 r_6 (x5 + 1)))) else fX2_bestAddress_9 RA RI RC na dy db interviewer time fu x3 x4 (x5 + 1))))
theorem fX2_bestAddress_9_s (RA : Nat → Int32) (RI : Nat → Int32) (RC : Nat → Int32) (na : Int32) (dy : Int32) (db : Int32) (interviewer : Int32) (time : Int32) (fu : Nat) (x3 : Int32) (x4 : Int32) (x5 : Int32) : fX2_bestAddress_9 RA RI RC na dy db interviewer time (fu + 1) x3 x4 x5 =
    (if na ≤ x5 then x3 else bd1 (fX5_isPossible RA RI dy db interviewer x5 time) (fun (r_4 : Bool) => (if r_4 = true then bd1 (fX2_rankOf RA RI RC dy interviewer x5) (fun (r_6 : Int32) => (if x3 = (-4) then fX2_bestAddress_9 RA RI RC na dy db interviewer time fu x5 r_6 (x5 + 1) else (if x4 ≤ r_6 then fX2_bestAddress_9 RA RI RC na dy db interviewer time fu x3 x4 (x5 + 1) else fX2_bestAddress_9 RA RI RC na dy db interviewer time fu x5 r_6 (x5 + 1)))) else fX2_bestAddress_9 RA RI RC na dy db interviewer time fu x3 x4 (x5 + 1)))) := rfl

/-- the value of X2_bestAddress, path by path -/
def fX2_bestAddress (RA : Nat → Int32) (RI : Nat → Int32) (RC : Nat → Int32) (na : Int32) (dy : Int32) (db : Int32) (interviewer : Int32) (time : Int32) : Int32 :=
  fX2_bestAddress_9 RA RI RC na dy db interviewer time ((na.toInt - (0 : Int32).toInt).toNat + 1) (-4) 0 0

set_option maxHeartbeats 4000000 in
set_option maxRecDepth 100000 in
/-- X2_bestAddress -/
theorem mX2_bestAddress (l : Launch) (D : va_G) (cI cC cS : ClassId) (sz : Nat) (o : Nat) (h : Nat) (t1 : Nat) (t2 : Nat) (t3 : Nat) (a1 : Nat) (a2 : Nat) (a3 : Nat) (RA : Nat → Int32) (RI : Nat → Int32) (RC : Nat → Int32) (na : Int32) (ni : Int32) (dy : Int32) (vl : Int32) (db : Int32) (interviewer : Int32) (time : Int32)  : Met l yX2_bestAddress wsX2_bestAddress ({ frames := 4, cells := 0, slots := 0, locals := 96 } : Jvm.Room) (va_Pc [.ref o, .int interviewer, .int time] (wPre D (TY cI cC cS) [(o, .inr (1, [.ref h])), (h, .inr (4, [.ref t1, .ref t2, .ref t3, .int na, .int ni, .int dy, .int vl, .int db])), (t1, .inr (5, [.ref a1, .int 10])), (t2, .inr (5, [.ref a2, .int 6])), (t3, .inr (5, [.ref a3, .int 3])), (a1, .inl (cI, 240, .inl RA)), (a2, .inl (cI, 30, .inl RI)), (a3, .inl (cI, 36, .inl RC))] sz wN)) (qI D (TY cI cC cS) (fun (r : Int32) (u : Int32) => fX2_bestAddress RA RI RC na dy db interviewer time = u ∧ r = u) (fun u => [(o, .inr (1, [.ref h])), (h, .inr (4, [.ref t1, .ref t2, .ref t3, .int na, .int ni, .int dy, .int vl, .int db])), (t1, .inr (5, [.ref a1, .int 10])), (t2, .inr (5, [.ref a2, .int 6])), (t3, .inr (5, [.ref a3, .int 3])), (a1, .inl (cI, 240, .inl RA)), (a2, .inl (cI, 30, .inl RI)), (a3, .inl (cI, 36, .inl RC))]) (va_A [(o, .inr (1, [.ref h])), (h, .inr (4, [.ref t1, .ref t2, .ref t3, .int na, .int ni, .int dy, .int vl, .int db])), (t1, .inr (5, [.ref a1, .int 10])), (t2, .inr (5, [.ref a2, .int 6])), (t3, .inr (5, [.ref a3, .int 3])), (a1, .inl (cI, 240, .inl RA)), (a2, .inl (cI, 30, .inl RI)), (a3, .inl (cI, 36, .inl RC))] sz)) 0 0 (va_A [(o, .inr (1, [.ref h])), (h, .inr (4, [.ref t1, .ref t2, .ref t3, .int na, .int ni, .int dy, .int vl, .int db])), (t1, .inr (5, [.ref a1, .int 10])), (t2, .inr (5, [.ref a2, .int 6])), (t3, .inr (5, [.ref a3, .int 3])), (a1, .inl (cI, 240, .inl RA)), (a2, .inl (cI, 30, .inl RI)), (a3, .inl (cI, 36, .inl RC))] sz) := by
  refine mkM (fun Fr => qI D (TY cI cC cS) (fun (r : Int32) (u : Int32) => fX2_bestAddress RA RI RC na dy db interviewer time = u ∧ r = u) (fun u => [(o, .inr (1, [.ref h])), (h, .inr (4, [.ref t1, .ref t2, .ref t3, .int na, .int ni, .int dy, .int vl, .int db])), (t1, .inr (5, [.ref a1, .int 10])), (t2, .inr (5, [.ref a2, .int 6])), (t3, .inr (5, [.ref a3, .int 3])), (a1, .inl (cI, 240, .inl RA)), (a2, .inl (cI, 30, .inl RI)), (a3, .inl (cI, 36, .inl RC))]) Fr) (cc := cX2_bestAddress) (maxL := 7) (ret := (some .int)) (own := RX2) (lv := [(0, .ref o), (1, .int interviewer), (2, .int time)]) (by decide) rfl rfl (Nat.le_of_ble_eq_true rfl) rfl ?_
  intro p e s m below meth c Fr ls hx hb hr hts hown hml hlk hin hP hK hD hS hA hAe hsz hX hl
  have w_1 := hts (.fieldLink RX2 9 "FieldQuotas$Overview" "survey" "LFieldQuotas$Survey;") (List.mem_of_getElem? (i := 1) rfl)
  have w_2 := sub_r (big := wsX2_bestAddress) (u_ws RX2 TX2 1) [67] rfl
  refine lv_bipush (v := (-4)) hx hb dX2_bestAddress_0 (by decide) ?_
  refine lv_istore_n (lv' := [(3, .int (-4)), (0, .ref o), (1, .int interviewer), (2, .int time)]) hx hb dX2_bestAddress_2 rfl hl (by decide) rfl (fun ls hl => ?_)
  refine lv_iconst (v := 0) hx hb dX2_bestAddress_3 (by decide) ?_
  refine lv_istore (lv' := [(4, .int 0), (3, .int (-4)), (0, .ref o), (1, .int interviewer), (2, .int time)]) hx hb dX2_bestAddress_4 hl (by decide) rfl (fun ls hl => ?_)
  refine lv_iconst (v := 0) hx hb dX2_bestAddress_6 (by decide) ?_
  refine lv_istore (lv' := [(5, .int 0), (4, .int 0), (3, .int (-4)), (0, .ref o), (1, .int interviewer), (2, .int time)]) hx hb dX2_bestAddress_7 hl (by decide) rfl (fun ls hl => ?_)
  have K_9 : ∀ (fu : Nat) (x3 : Int32) (x4 : Int32) (x5 : Int32) (H : Heap) (locs : List Loc) (ls : Array Slot), va_P D vwCl [(o, .inr (1, [.ref h])), (h, .inr (4, [.ref t1, .ref t2, .ref t3, .int na, .int ni, .int dy, .int vl, .int db])), (t1, .inr (5, [.ref a1, .int 10])), (t2, .inr (5, [.ref a2, .int 6])), (t3, .inr (5, [.ref a3, .int 3])), (a1, .inl (cI, 240, .inl RA)), (a2, .inl (cI, 30, .inl RI)), (a3, .inl (cI, 36, .inl RC))] H → va_D Fr [(o, .inr (1, [.ref h])), (h, .inr (4, [.ref t1, .ref t2, .ref t3, .int na, .int ni, .int dy, .int vl, .int db])), (t1, .inr (5, [.ref a1, .int 10])), (t2, .inr (5, [.ref a2, .int 6])), (t3, .inr (5, [.ref a3, .int 3])), (a1, .inl (cI, 240, .inl RA)), (a2, .inl (cI, 30, .inl RI)), (a3, .inl (cI, 36, .inl RC))] → va_S Fr s.heap H locs → lv_has ls 7 [(0, .ref o), (1, .int interviewer), (2, .int time), (3, .int x3), (4, .int x4), (5, .int x5)] → (na.toInt - x5.toInt).toNat < fu → fX2_bestAddress RA RI RC na dy db interviewer time = fX2_bestAddress_9 RA RI RC na dy db interviewer time fu x3 x4 x5 → W p l e (headSpec wsX2_bestAddress ({ frames := 4, cells := 0, slots := 0, locals := 96 } : Jvm.Room)).room s m ([.ref o, .int interviewer, .int time] : List Value).toArray below meth c H locs 0 0 (MQ below (qI D (TY cI cC cS) (fun (r : Int32) (u : Int32) => fX2_bestAddress RA RI RC na dy db interviewer time = u ∧ r = u) (fun u => [(o, .inr (1, [.ref h])), (h, .inr (4, [.ref t1, .ref t2, .ref t3, .int na, .int ni, .int dy, .int vl, .int db])), (t1, .inr (5, [.ref a1, .int 10])), (t2, .inr (5, [.ref a2, .int 6])), (t3, .inr (5, [.ref a3, .int 3])), (a1, .inl (cI, 240, .inl RA)), (a2, .inl (cI, 30, .inl RI)), (a3, .inl (cI, 36, .inl RC))]) Fr) ([.ref o, .int interviewer, .int time] : List Value).toArray s 0 0 Fr) (F0 m 9 ls []) := by
    intro fu
    induction fu with
    | zero => intros; exact absurd (by assumption) (Nat.not_lt_zero _)
    | succ fu ih_9 =>
      intro x3 x4 x5 H locs ls hP hD hS hl  hm_9 E_9
      refine lv_iload hx hb dX2_bestAddress_9 (lv_at hl 5 rfl) ?_
      refine lv_aload_n hx hb dX2_bestAddress_11 rfl (lv_at hl 0 rfl) ?_
      refine va_get (D := D) (ci := 1) (C := RX2) (T := TX2) (N := 1) hx hb hts w_2 hown hK hP 0 rfl rfl 0 (by decide) w_1 (fun _ h9 => h9) rfl dX2_bestAddress_12 ?_
      refine callVi (As := []) (rest := [.int x5]) (mX5_addressCount l D cI cC cS _ h t1 t2 t3 a1 a2 a3 RA RI RC na ni dy vl db) ⟨hx, hb, hml, hown, hts⟩ (cwV 0 hts gX2_bestAddress_X5_addressCount rfl rfl rfl (by decide +kernel) ⟨Nat.le_of_ble_eq_true rfl, Nat.le_of_ble_eq_true rfl⟩) wN_blind (fun _ _ hW => wN_warm hW hX) hP hK hD hS hA hl [1, 2, 3, 4, 5, 6, 7] rfl rfl 0 4 rfl rfl rfl rfl rfl (Nat.le_of_ble_eq_true rfl) dX2_bestAddress_15 ⟨Nat.zero_le _, Nat.zero_le _⟩ (fun _ => rfl) (fun u_ H locs hk2 hP hD hS => ?_)
      obtain ⟨r_2, e_r_2⟩ : ∃ z, z = u_ := ⟨_, rfl⟩
      subst e_r_2
      have hP : va_P D vwCl [(o, .inr (1, [.ref h])), (h, .inr (4, [.ref t1, .ref t2, .ref t3, .int na, .int ni, .int dy, .int vl, .int db])), (t1, .inr (5, [.ref a1, .int 10])), (t2, .inr (5, [.ref a2, .int 6])), (t3, .inr (5, [.ref a3, .int 3])), (a1, .inl (cI, 240, .inl RA)), (a2, .inl (cI, 30, .inl RI)), (a3, .inl (cI, 36, .inl RC))] H := hP
      have hD : va_D Fr [(o, .inr (1, [.ref h])), (h, .inr (4, [.ref t1, .ref t2, .ref t3, .int na, .int ni, .int dy, .int vl, .int db])), (t1, .inr (5, [.ref a1, .int 10])), (t2, .inr (5, [.ref a2, .int 6])), (t3, .inr (5, [.ref a3, .int 3])), (a1, .inl (cI, 240, .inl RA)), (a2, .inl (cI, 30, .inl RI)), (a3, .inl (cI, 36, .inl RC))] := hD
      have hk2 : na = r_2 := hk2
      subst hk2
      refine W.eq (g2 := F0 m 18 ls [.int na, .int x5]) rfl ?_
      refine lv_icmp_ge (tgt := 70) hx hb dX2_bestAddress_18 (by decide) (fun c18 => ?_) (fun c18 => ?_)
      · refine lv_iload_n hx hb dX2_bestAddress_70 rfl (lv_at hl 3 rfl) ?_
        exact endI hx hb hr hlk hP hK hD hS dX2_bestAddress_71 x3 rfl ⟨(E_9).trans ((fX2_bestAddress_9_s RA RI RC na dy db interviewer time fu x3 x4 x5).trans ((if_pos c18).trans rfl)), rfl⟩
      · refine lv_aload_n hx hb dX2_bestAddress_21 rfl (lv_at hl 0 rfl) ?_
        refine va_get (D := D) (ci := 1) (C := RX2) (T := TX2) (N := 1) hx hb hts w_2 hown hK hP 0 rfl rfl 0 (by decide) w_1 (fun _ h9 => h9) rfl dX2_bestAddress_22 ?_
        refine lv_iload_n hx hb dX2_bestAddress_25 rfl (lv_at hl 1 rfl) ?_
        refine lv_iload hx hb dX2_bestAddress_26 (lv_at hl 5 rfl) ?_
        refine lv_iload_n hx hb dX2_bestAddress_28 rfl (lv_at hl 2 rfl) ?_
        refine callVi (As := [.int interviewer, .int x5, .int time]) (rest := []) (mX5_isPossible l D cI cC cS _ h t1 t2 t3 a1 a2 a3 RA RI RC na ni dy vl db interviewer x5 time) ⟨hx, hb, hml, hown, hts⟩ (cwV 3 hts gX2_bestAddress_X5_isPossible rfl rfl rfl (by decide +kernel) ⟨Nat.le_of_ble_eq_true rfl, Nat.le_of_ble_eq_true rfl⟩) wN_blind (fun _ _ hW => wN_warm hW hX) hP hK hD hS hA hl [1, 2, 3, 4, 5, 6, 7] rfl rfl 0 4 rfl rfl rfl rfl rfl (Nat.le_of_ble_eq_true rfl) dX2_bestAddress_29 ⟨Nat.zero_le _, Nat.zero_le _⟩ (fun _ => rfl) (fun u_ H locs hk4 hP hD hS => ?_)
        obtain ⟨r_4, e_r_4⟩ : ∃ z, z = u_ := ⟨_, rfl⟩
        subst e_r_4
        have hP : va_P D vwCl [(o, .inr (1, [.ref h])), (h, .inr (4, [.ref t1, .ref t2, .ref t3, .int na, .int ni, .int dy, .int vl, .int db])), (t1, .inr (5, [.ref a1, .int 10])), (t2, .inr (5, [.ref a2, .int 6])), (t3, .inr (5, [.ref a3, .int 3])), (a1, .inl (cI, 240, .inl RA)), (a2, .inl (cI, 30, .inl RI)), (a3, .inl (cI, 36, .inl RC))] H := hP
        have hD : va_D Fr [(o, .inr (1, [.ref h])), (h, .inr (4, [.ref t1, .ref t2, .ref t3, .int na, .int ni, .int dy, .int vl, .int db])), (t1, .inr (5, [.ref a1, .int 10])), (t2, .inr (5, [.ref a2, .int 6])), (t3, .inr (5, [.ref a3, .int 3])), (a1, .inl (cI, 240, .inl RA)), (a2, .inl (cI, 30, .inl RI)), (a3, .inl (cI, 36, .inl RC))] := hD
        refine W.eq (g2 := F0 m 32 ls [.int (bi r_4)]) rfl ?_
        refine lv_if_eq (tgt := 64) hx hb dX2_bestAddress_32 (by decide) (fun c32 => ?_) (fun c32 => ?_)
        · refine lv_iinc (v := x5 + 1) (lv' := [(5, .int (x5 + 1)), (0, .ref o), (1, .int interviewer), (2, .int time), (3, .int x3), (4, .int x4)]) hx hb dX2_bestAddress_64 hl (k := 5) rfl (by rfl) (by decide) rfl (fun ls hl => ?_)
          refine lv_goto (tgt := 9) hx hb dX2_bestAddress_67 (by decide) ?_
          exact ih_9 x3 x4 (x5 + 1) _ _ ls hP hD hS (lv_sub hl [1, 2, 3, 4, 5, 0] rfl) (Nat.lt_of_lt_of_le (lp_dec c18) (Nat.le_of_lt_succ hm_9)) ((E_9).trans ((fX2_bestAddress_9_s RA RI RC na dy db interviewer time fu x3 x4 x5).trans ((if_neg c18).trans ((bd1_e hk4).trans ((if_neg (bi_z c32)).trans rfl)))))
        · refine lv_aload_n hx hb dX2_bestAddress_35 rfl (lv_at hl 0 rfl) ?_
          refine lv_iload_n hx hb dX2_bestAddress_36 rfl (lv_at hl 1 rfl) ?_
          refine lv_iload hx hb dX2_bestAddress_37 (lv_at hl 5 rfl) ?_
          refine callVi (As := [.int interviewer, .int x5]) (rest := []) (mX2_rankOf l D cI cC cS _ o h t1 t2 t3 a1 a2 a3 RA RI RC na ni dy vl db interviewer x5) ⟨hx, hb, hml, hown, hts⟩ (cwV 2 hts gX2_bestAddress_X2_rankOf rfl rfl rfl (by decide +kernel) ⟨Nat.le_of_ble_eq_true rfl, Nat.le_of_ble_eq_true rfl⟩) wN_blind (fun _ _ hW => wN_warm hW hX) hP hK hD hS hA hl [0, 1, 2, 3, 4, 5, 6, 7] rfl rfl 0 1 rfl rfl rfl rfl rfl (Nat.le_of_ble_eq_true rfl) dX2_bestAddress_39 ⟨Nat.zero_le _, Nat.zero_le _⟩ (fun _ => rfl) (fun u_ H locs hk6 hP hD hS => ?_)
          obtain ⟨r_6, e_r_6⟩ : ∃ z, z = u_ := ⟨_, rfl⟩
          subst e_r_6
          have hP : va_P D vwCl [(o, .inr (1, [.ref h])), (h, .inr (4, [.ref t1, .ref t2, .ref t3, .int na, .int ni, .int dy, .int vl, .int db])), (t1, .inr (5, [.ref a1, .int 10])), (t2, .inr (5, [.ref a2, .int 6])), (t3, .inr (5, [.ref a3, .int 3])), (a1, .inl (cI, 240, .inl RA)), (a2, .inl (cI, 30, .inl RI)), (a3, .inl (cI, 36, .inl RC))] H := hP
          have hD : va_D Fr [(o, .inr (1, [.ref h])), (h, .inr (4, [.ref t1, .ref t2, .ref t3, .int na, .int ni, .int dy, .int vl, .int db])), (t1, .inr (5, [.ref a1, .int 10])), (t2, .inr (5, [.ref a2, .int 6])), (t3, .inr (5, [.ref a3, .int 3])), (a1, .inl (cI, 240, .inl RA)), (a2, .inl (cI, 30, .inl RI)), (a3, .inl (cI, 36, .inl RC))] := hD
          refine W.eq (g2 := F0 m 42 ls [.int r_6]) rfl ?_
          refine lv_istore (lv' := [(6, .int r_6), (0, .ref o), (1, .int interviewer), (2, .int time), (3, .int x3), (4, .int x4), (5, .int x5)]) hx hb dX2_bestAddress_42 hl (by decide) rfl (fun ls hl => ?_)
          refine lv_iload_n hx hb dX2_bestAddress_44 rfl (lv_at hl 4 rfl) ?_
          refine lv_bipush (v := (-4)) hx hb dX2_bestAddress_45 (by decide) ?_
          refine lv_icmp_eq (tgt := 57) hx hb dX2_bestAddress_47 (by decide) (fun c47 => ?_) (fun c47 => ?_)
          · refine lv_iload hx hb dX2_bestAddress_57 (lv_at hl 6 rfl) ?_
            refine lv_istore_n (lv' := [(3, .int x5), (6, .int r_6), (0, .ref o), (1, .int interviewer), (2, .int time), (4, .int x4), (5, .int x5)]) hx hb dX2_bestAddress_59 rfl hl (by decide) rfl (fun ls hl => ?_)
            refine lv_iload hx hb dX2_bestAddress_60 (lv_at hl 1 rfl) ?_
            refine lv_istore (lv' := [(4, .int r_6), (3, .int x5), (6, .int r_6), (0, .ref o), (1, .int interviewer), (2, .int time), (5, .int x5)]) hx hb dX2_bestAddress_62 hl (by decide) rfl (fun ls hl => ?_)
            refine lv_iinc (v := x5 + 1) (lv' := [(5, .int (x5 + 1)), (4, .int r_6), (3, .int x5), (6, .int r_6), (0, .ref o), (1, .int interviewer), (2, .int time)]) hx hb dX2_bestAddress_64 hl (k := 6) rfl (by rfl) (by decide) rfl (fun ls hl => ?_)
            refine lv_goto (tgt := 9) hx hb dX2_bestAddress_67 (by decide) ?_
            exact ih_9 x5 r_6 (x5 + 1) _ _ ls hP hD hS (lv_sub hl [4, 5, 6, 2, 1, 0] rfl) (Nat.lt_of_lt_of_le (lp_dec c18) (Nat.le_of_lt_succ hm_9)) ((E_9).trans ((fX2_bestAddress_9_s RA RI RC na dy db interviewer time fu x3 x4 x5).trans ((if_neg c18).trans ((bd1_e hk4).trans ((if_pos (bi_o c32)).trans ((bd1_e hk6).trans ((if_pos c47).trans rfl)))))))
          · refine lv_iload hx hb dX2_bestAddress_50 (lv_at hl 0 rfl) ?_
            refine lv_iload hx hb dX2_bestAddress_52 (lv_at hl 5 rfl) ?_
            refine lv_icmp_ge (tgt := 64) hx hb dX2_bestAddress_54 (by decide) (fun c54 => ?_) (fun c54 => ?_)
            · refine lv_iinc (v := x5 + 1) (lv' := [(5, .int (x5 + 1)), (6, .int r_6), (0, .ref o), (1, .int interviewer), (2, .int time), (3, .int x3), (4, .int x4)]) hx hb dX2_bestAddress_64 hl (k := 6) rfl (by rfl) (by decide) rfl (fun ls hl => ?_)
              refine lv_goto (tgt := 9) hx hb dX2_bestAddress_67 (by decide) ?_
              exact ih_9 x3 x4 (x5 + 1) _ _ ls hP hD hS (lv_sub hl [2, 3, 4, 5, 6, 0] rfl) (Nat.lt_of_lt_of_le (lp_dec c18) (Nat.le_of_lt_succ hm_9)) ((E_9).trans ((fX2_bestAddress_9_s RA RI RC na dy db interviewer time fu x3 x4 x5).trans ((if_neg c18).trans ((bd1_e hk4).trans ((if_pos (bi_o c32)).trans ((bd1_e hk6).trans ((if_neg c47).trans ((if_pos c54).trans rfl))))))))
            · refine lv_iload hx hb dX2_bestAddress_57 (lv_at hl 6 rfl) ?_
              refine lv_istore_n (lv' := [(3, .int x5), (6, .int r_6), (0, .ref o), (1, .int interviewer), (2, .int time), (4, .int x4), (5, .int x5)]) hx hb dX2_bestAddress_59 rfl hl (by decide) rfl (fun ls hl => ?_)
              refine lv_iload hx hb dX2_bestAddress_60 (lv_at hl 1 rfl) ?_
              refine lv_istore (lv' := [(4, .int r_6), (3, .int x5), (6, .int r_6), (0, .ref o), (1, .int interviewer), (2, .int time), (5, .int x5)]) hx hb dX2_bestAddress_62 hl (by decide) rfl (fun ls hl => ?_)
              refine lv_iinc (v := x5 + 1) (lv' := [(5, .int (x5 + 1)), (4, .int r_6), (3, .int x5), (6, .int r_6), (0, .ref o), (1, .int interviewer), (2, .int time)]) hx hb dX2_bestAddress_64 hl (k := 6) rfl (by rfl) (by decide) rfl (fun ls hl => ?_)
              refine lv_goto (tgt := 9) hx hb dX2_bestAddress_67 (by decide) ?_
              exact ih_9 x5 r_6 (x5 + 1) _ _ ls hP hD hS (lv_sub hl [4, 5, 6, 2, 1, 0] rfl) (Nat.lt_of_lt_of_le (lp_dec c18) (Nat.le_of_lt_succ hm_9)) ((E_9).trans ((fX2_bestAddress_9_s RA RI RC na dy db interviewer time fu x3 x4 x5).trans ((if_neg c18).trans ((bd1_e hk4).trans ((if_pos (bi_o c32)).trans ((bd1_e hk6).trans ((if_neg c47).trans ((if_neg c54).trans rfl))))))))
  exact K_9 ((na.toInt - (0 : Int32).toInt).toNat + 1) (-4) 0 0 _ _ ls hP hD hS (lv_sub hl [3, 4, 5, 2, 1, 0] rfl) (Nat.lt_succ_self _) rfl

/-- the value of X2_number, path by path -/
def fX2_number (RA : Nat → Int32) (RC : Nat → Int32) (na : Int32) (ni : Int32) (dy : Int32) (vl : Int32) (db : Int32) (what : Int32) : Int32 :=
  (if what = 0 then na else if what = 1 then ni else if what = 2 then dy else if what = 3 then bd1 (fX2_sumOfAddresses RA na 2) (fun (r_8 : Int32) => r_8) else if what = 4 then bd1 (fX2_sumOfAddresses RA na 3) (fun (r_10 : Int32) => r_10) else if what = 5 then bd1 (fX2_addressesWith RA na 1) (fun (r_12 : Int32) => r_12) else if what = 6 then bd1 (fX2_wantedInAll RC) (fun (r_14 : Int32) => r_14) else if what = 7 then bd1 (fX5_meetings RA na) (fun (r_16 : Int32) => r_16) else if what = 8 then (-1) else if what = 9 then (-1) else if what = 10 then vl else if what = 11 then db else (-1))

set_option maxHeartbeats 4000000 in
set_option maxRecDepth 100000 in
/-- X2_number -/
theorem mX2_number (l : Launch) (D : va_G) (cI cC cS : ClassId) (sz : Nat) (o : Nat) (h : Nat) (t1 : Nat) (t2 : Nat) (t3 : Nat) (a1 : Nat) (a2 : Nat) (a3 : Nat) (RA : Nat → Int32) (RI : Nat → Int32) (RC : Nat → Int32) (na : Int32) (ni : Int32) (dy : Int32) (vl : Int32) (db : Int32) (what : Int32)  : Met l yX2_number wsX2_number ({ frames := 4, cells := 0, slots := 0, locals := 92 } : Jvm.Room) (va_Pc [.ref o, .int what] (wPre D (TY cI cC cS) [(o, .inr (1, [.ref h])), (h, .inr (4, [.ref t1, .ref t2, .ref t3, .int na, .int ni, .int dy, .int vl, .int db])), (t1, .inr (5, [.ref a1, .int 10])), (t2, .inr (5, [.ref a2, .int 6])), (t3, .inr (5, [.ref a3, .int 3])), (a1, .inl (cI, 240, .inl RA)), (a2, .inl (cI, 30, .inl RI)), (a3, .inl (cI, 36, .inl RC))] sz wN)) (qI D (TY cI cC cS) (fun (r : Int32) (u : Int32) => fX2_number RA RC na ni dy vl db what = u ∧ r = u) (fun u => [(o, .inr (1, [.ref h])), (h, .inr (4, [.ref t1, .ref t2, .ref t3, .int na, .int ni, .int dy, .int vl, .int db])), (t1, .inr (5, [.ref a1, .int 10])), (t2, .inr (5, [.ref a2, .int 6])), (t3, .inr (5, [.ref a3, .int 3])), (a1, .inl (cI, 240, .inl RA)), (a2, .inl (cI, 30, .inl RI)), (a3, .inl (cI, 36, .inl RC))]) (va_A [(o, .inr (1, [.ref h])), (h, .inr (4, [.ref t1, .ref t2, .ref t3, .int na, .int ni, .int dy, .int vl, .int db])), (t1, .inr (5, [.ref a1, .int 10])), (t2, .inr (5, [.ref a2, .int 6])), (t3, .inr (5, [.ref a3, .int 3])), (a1, .inl (cI, 240, .inl RA)), (a2, .inl (cI, 30, .inl RI)), (a3, .inl (cI, 36, .inl RC))] sz)) 0 0 (va_A [(o, .inr (1, [.ref h])), (h, .inr (4, [.ref t1, .ref t2, .ref t3, .int na, .int ni, .int dy, .int vl, .int db])), (t1, .inr (5, [.ref a1, .int 10])), (t2, .inr (5, [.ref a2, .int 6])), (t3, .inr (5, [.ref a3, .int 3])), (a1, .inl (cI, 240, .inl RA)), (a2, .inl (cI, 30, .inl RI)), (a3, .inl (cI, 36, .inl RC))] sz) := by
  refine mkM (fun Fr => qI D (TY cI cC cS) (fun (r : Int32) (u : Int32) => fX2_number RA RC na ni dy vl db what = u ∧ r = u) (fun u => [(o, .inr (1, [.ref h])), (h, .inr (4, [.ref t1, .ref t2, .ref t3, .int na, .int ni, .int dy, .int vl, .int db])), (t1, .inr (5, [.ref a1, .int 10])), (t2, .inr (5, [.ref a2, .int 6])), (t3, .inr (5, [.ref a3, .int 3])), (a1, .inl (cI, 240, .inl RA)), (a2, .inl (cI, 30, .inl RI)), (a3, .inl (cI, 36, .inl RC))]) Fr) (cc := cX2_number) (maxL := 2) (ret := (some .int)) (own := RX2) (lv := [(0, .ref o), (1, .int what)]) (by decide) rfl rfl (Nat.le_of_ble_eq_true rfl) rfl ?_
  intro p e s m below meth c Fr ls hx hb hr hts hown hml hlk hin hP hK hD hS hA hAe hsz hX hl
  have w_1 := hts (.fieldLink RX2 9 "FieldQuotas$Overview" "survey" "LFieldQuotas$Survey;") (List.mem_of_getElem? (i := 1) rfl)
  have w_2 := sub_r (big := wsX2_number) (u_ws RX2 TX2 1) [74] rfl
  refine lv_iload_n hx hb dX2_number_0 rfl (lv_at hl 1 rfl) ?_
  by_cases c1_0 : what = 0
  · refine lv_tableIn (tgt := 64) hx hb dX2_number_1 (by rw [c1_0]; decide) (by rw [c1_0]; decide) (by rw [c1_0]; rfl) (by decide) ?_
    refine lv_aload_n hx hb dX2_number_64 rfl (lv_at hl 0 rfl) ?_
    refine va_get (D := D) (ci := 1) (C := RX2) (T := TX2) (N := 1) hx hb hts w_2 hown hK hP 0 rfl rfl 0 (by decide) w_1 (fun _ h9 => h9) rfl dX2_number_65 ?_
    refine callVi (As := []) (rest := []) (mX5_addressCount l D cI cC cS _ h t1 t2 t3 a1 a2 a3 RA RI RC na ni dy vl db) ⟨hx, hb, hml, hown, hts⟩ (cwV 0 hts gX2_number_X5_addressCount rfl rfl rfl (by decide +kernel) ⟨Nat.le_of_ble_eq_true rfl, Nat.le_of_ble_eq_true rfl⟩) wN_blind (fun _ _ hW => wN_warm hW hX) hP hK hD hS hA hl [1, 2, 3, 4, 5, 6, 7] rfl rfl 0 4 rfl rfl rfl rfl rfl (Nat.le_of_ble_eq_true rfl) dX2_number_68 ⟨Nat.zero_le _, Nat.zero_le _⟩ (fun _ => rfl) (fun u_ H locs hk2 hP hD hS => ?_)
    obtain ⟨r_2, e_r_2⟩ : ∃ z, z = u_ := ⟨_, rfl⟩
    subst e_r_2
    have hP : va_P D vwCl [(o, .inr (1, [.ref h])), (h, .inr (4, [.ref t1, .ref t2, .ref t3, .int na, .int ni, .int dy, .int vl, .int db])), (t1, .inr (5, [.ref a1, .int 10])), (t2, .inr (5, [.ref a2, .int 6])), (t3, .inr (5, [.ref a3, .int 3])), (a1, .inl (cI, 240, .inl RA)), (a2, .inl (cI, 30, .inl RI)), (a3, .inl (cI, 36, .inl RC))] H := hP
    have hD : va_D Fr [(o, .inr (1, [.ref h])), (h, .inr (4, [.ref t1, .ref t2, .ref t3, .int na, .int ni, .int dy, .int vl, .int db])), (t1, .inr (5, [.ref a1, .int 10])), (t2, .inr (5, [.ref a2, .int 6])), (t3, .inr (5, [.ref a3, .int 3])), (a1, .inl (cI, 240, .inl RA)), (a2, .inl (cI, 30, .inl RI)), (a3, .inl (cI, 36, .inl RC))] := hD
    have hk2 : na = r_2 := hk2
    subst hk2
    refine W.eq (g2 := F0 m 71 ls [.int na]) rfl ?_
    exact endI hx hb hr hlk hP hK hD hS dX2_number_71 na rfl ⟨(if_pos c1_0).trans rfl, rfl⟩
  by_cases c1_1 : what = 1
  · refine lv_tableIn (tgt := 72) hx hb dX2_number_1 (by rw [c1_1]; decide) (by rw [c1_1]; decide) (by rw [c1_1]; rfl) (by decide) ?_
    refine lv_aload_n hx hb dX2_number_72 rfl (lv_at hl 0 rfl) ?_
    refine va_get (D := D) (ci := 1) (C := RX2) (T := TX2) (N := 1) hx hb hts w_2 hown hK hP 0 rfl rfl 0 (by decide) w_1 (fun _ h9 => h9) rfl dX2_number_73 ?_
    refine callVi (As := []) (rest := []) (mX5_interviewerCount l D cI cC cS _ h t1 t2 t3 a1 a2 a3 RA RI RC na ni dy vl db) ⟨hx, hb, hml, hown, hts⟩ (cwV 0 hts gX2_number_X5_interviewerCount rfl rfl rfl (by decide +kernel) ⟨Nat.le_of_ble_eq_true rfl, Nat.le_of_ble_eq_true rfl⟩) wN_blind (fun _ _ hW => wN_warm hW hX) hP hK hD hS hA hl [1, 2, 3, 4, 5, 6, 7] rfl rfl 0 4 rfl rfl rfl rfl rfl (Nat.le_of_ble_eq_true rfl) dX2_number_76 ⟨Nat.zero_le _, Nat.zero_le _⟩ (fun _ => rfl) (fun u_ H locs hk4 hP hD hS => ?_)
    obtain ⟨r_4, e_r_4⟩ : ∃ z, z = u_ := ⟨_, rfl⟩
    subst e_r_4
    have hP : va_P D vwCl [(o, .inr (1, [.ref h])), (h, .inr (4, [.ref t1, .ref t2, .ref t3, .int na, .int ni, .int dy, .int vl, .int db])), (t1, .inr (5, [.ref a1, .int 10])), (t2, .inr (5, [.ref a2, .int 6])), (t3, .inr (5, [.ref a3, .int 3])), (a1, .inl (cI, 240, .inl RA)), (a2, .inl (cI, 30, .inl RI)), (a3, .inl (cI, 36, .inl RC))] H := hP
    have hD : va_D Fr [(o, .inr (1, [.ref h])), (h, .inr (4, [.ref t1, .ref t2, .ref t3, .int na, .int ni, .int dy, .int vl, .int db])), (t1, .inr (5, [.ref a1, .int 10])), (t2, .inr (5, [.ref a2, .int 6])), (t3, .inr (5, [.ref a3, .int 3])), (a1, .inl (cI, 240, .inl RA)), (a2, .inl (cI, 30, .inl RI)), (a3, .inl (cI, 36, .inl RC))] := hD
    have hk4 : ni = r_4 := hk4
    subst hk4
    refine W.eq (g2 := F0 m 79 ls [.int ni]) rfl ?_
    exact endI hx hb hr hlk hP hK hD hS dX2_number_79 ni rfl ⟨(if_neg c1_0).trans ((if_pos c1_1).trans rfl), rfl⟩
  by_cases c1_2 : what = 2
  · refine lv_tableIn (tgt := 80) hx hb dX2_number_1 (by rw [c1_2]; decide) (by rw [c1_2]; decide) (by rw [c1_2]; rfl) (by decide) ?_
    refine lv_aload_n hx hb dX2_number_80 rfl (lv_at hl 0 rfl) ?_
    refine va_get (D := D) (ci := 1) (C := RX2) (T := TX2) (N := 1) hx hb hts w_2 hown hK hP 0 rfl rfl 0 (by decide) w_1 (fun _ h9 => h9) rfl dX2_number_81 ?_
    refine callVi (As := []) (rest := []) (mX5_day l D cI cC cS _ h t1 t2 t3 a1 a2 a3 RA RI RC na ni dy vl db) ⟨hx, hb, hml, hown, hts⟩ (cwV 0 hts gX2_number_X5_day rfl rfl rfl (by decide +kernel) ⟨Nat.le_of_ble_eq_true rfl, Nat.le_of_ble_eq_true rfl⟩) wN_blind (fun _ _ hW => wN_warm hW hX) hP hK hD hS hA hl [1, 2, 3, 4, 5, 6, 7] rfl rfl 0 4 rfl rfl rfl rfl rfl (Nat.le_of_ble_eq_true rfl) dX2_number_84 ⟨Nat.zero_le _, Nat.zero_le _⟩ (fun _ => rfl) (fun u_ H locs hk6 hP hD hS => ?_)
    obtain ⟨r_6, e_r_6⟩ : ∃ z, z = u_ := ⟨_, rfl⟩
    subst e_r_6
    have hP : va_P D vwCl [(o, .inr (1, [.ref h])), (h, .inr (4, [.ref t1, .ref t2, .ref t3, .int na, .int ni, .int dy, .int vl, .int db])), (t1, .inr (5, [.ref a1, .int 10])), (t2, .inr (5, [.ref a2, .int 6])), (t3, .inr (5, [.ref a3, .int 3])), (a1, .inl (cI, 240, .inl RA)), (a2, .inl (cI, 30, .inl RI)), (a3, .inl (cI, 36, .inl RC))] H := hP
    have hD : va_D Fr [(o, .inr (1, [.ref h])), (h, .inr (4, [.ref t1, .ref t2, .ref t3, .int na, .int ni, .int dy, .int vl, .int db])), (t1, .inr (5, [.ref a1, .int 10])), (t2, .inr (5, [.ref a2, .int 6])), (t3, .inr (5, [.ref a3, .int 3])), (a1, .inl (cI, 240, .inl RA)), (a2, .inl (cI, 30, .inl RI)), (a3, .inl (cI, 36, .inl RC))] := hD
    have hk6 : dy = r_6 := hk6
    subst hk6
    refine W.eq (g2 := F0 m 87 ls [.int dy]) rfl ?_
    exact endI hx hb hr hlk hP hK hD hS dX2_number_87 dy rfl ⟨(if_neg c1_0).trans ((if_neg c1_1).trans ((if_pos c1_2).trans rfl)), rfl⟩
  by_cases c1_3 : what = 3
  · refine lv_tableIn (tgt := 88) hx hb dX2_number_1 (by rw [c1_3]; decide) (by rw [c1_3]; decide) (by rw [c1_3]; rfl) (by decide) ?_
    refine lv_aload_n hx hb dX2_number_88 rfl (lv_at hl 0 rfl) ?_
    refine lv_iconst (v := 2) hx hb dX2_number_89 (by decide) ?_
    refine callVi (As := [.int 2]) (rest := []) (mX2_sumOfAddresses l D cI cC cS _ o h t1 t2 t3 a1 a2 a3 RA RI RC na ni dy vl db 2) ⟨hx, hb, hml, hown, hts⟩ (cwV 1 hts gX2_number_X2_sumOfAddresses rfl rfl rfl (by decide +kernel) ⟨Nat.le_of_ble_eq_true rfl, Nat.le_of_ble_eq_true rfl⟩) wN_blind (fun _ _ hW => wN_warm hW hX) hP hK hD hS hA hl [0, 1, 2, 3, 4, 5, 6, 7] rfl rfl 0 1 rfl rfl rfl rfl rfl (Nat.le_of_ble_eq_true rfl) dX2_number_90 ⟨Nat.zero_le _, Nat.zero_le _⟩ (fun _ => rfl) (fun u_ H locs hk8 hP hD hS => ?_)
    obtain ⟨r_8, e_r_8⟩ : ∃ z, z = u_ := ⟨_, rfl⟩
    subst e_r_8
    have hP : va_P D vwCl [(o, .inr (1, [.ref h])), (h, .inr (4, [.ref t1, .ref t2, .ref t3, .int na, .int ni, .int dy, .int vl, .int db])), (t1, .inr (5, [.ref a1, .int 10])), (t2, .inr (5, [.ref a2, .int 6])), (t3, .inr (5, [.ref a3, .int 3])), (a1, .inl (cI, 240, .inl RA)), (a2, .inl (cI, 30, .inl RI)), (a3, .inl (cI, 36, .inl RC))] H := hP
    have hD : va_D Fr [(o, .inr (1, [.ref h])), (h, .inr (4, [.ref t1, .ref t2, .ref t3, .int na, .int ni, .int dy, .int vl, .int db])), (t1, .inr (5, [.ref a1, .int 10])), (t2, .inr (5, [.ref a2, .int 6])), (t3, .inr (5, [.ref a3, .int 3])), (a1, .inl (cI, 240, .inl RA)), (a2, .inl (cI, 30, .inl RI)), (a3, .inl (cI, 36, .inl RC))] := hD
    refine W.eq (g2 := F0 m 93 ls [.int r_8]) rfl ?_
    exact endI hx hb hr hlk hP hK hD hS dX2_number_93 r_8 rfl ⟨(if_neg c1_0).trans ((if_neg c1_1).trans ((if_neg c1_2).trans ((if_pos c1_3).trans ((bd1_e hk8).trans rfl)))), rfl⟩
  by_cases c1_4 : what = 4
  · refine lv_tableIn (tgt := 94) hx hb dX2_number_1 (by rw [c1_4]; decide) (by rw [c1_4]; decide) (by rw [c1_4]; rfl) (by decide) ?_
    refine lv_aload_n hx hb dX2_number_94 rfl (lv_at hl 0 rfl) ?_
    refine lv_iconst (v := 3) hx hb dX2_number_95 (by decide) ?_
    refine callVi (As := [.int 3]) (rest := []) (mX2_sumOfAddresses l D cI cC cS _ o h t1 t2 t3 a1 a2 a3 RA RI RC na ni dy vl db 3) ⟨hx, hb, hml, hown, hts⟩ (cwV 1 hts gX2_number_X2_sumOfAddresses rfl rfl rfl (by decide +kernel) ⟨Nat.le_of_ble_eq_true rfl, Nat.le_of_ble_eq_true rfl⟩) wN_blind (fun _ _ hW => wN_warm hW hX) hP hK hD hS hA hl [0, 1, 2, 3, 4, 5, 6, 7] rfl rfl 0 1 rfl rfl rfl rfl rfl (Nat.le_of_ble_eq_true rfl) dX2_number_96 ⟨Nat.zero_le _, Nat.zero_le _⟩ (fun _ => rfl) (fun u_ H locs hk10 hP hD hS => ?_)
    obtain ⟨r_10, e_r_10⟩ : ∃ z, z = u_ := ⟨_, rfl⟩
    subst e_r_10
    have hP : va_P D vwCl [(o, .inr (1, [.ref h])), (h, .inr (4, [.ref t1, .ref t2, .ref t3, .int na, .int ni, .int dy, .int vl, .int db])), (t1, .inr (5, [.ref a1, .int 10])), (t2, .inr (5, [.ref a2, .int 6])), (t3, .inr (5, [.ref a3, .int 3])), (a1, .inl (cI, 240, .inl RA)), (a2, .inl (cI, 30, .inl RI)), (a3, .inl (cI, 36, .inl RC))] H := hP
    have hD : va_D Fr [(o, .inr (1, [.ref h])), (h, .inr (4, [.ref t1, .ref t2, .ref t3, .int na, .int ni, .int dy, .int vl, .int db])), (t1, .inr (5, [.ref a1, .int 10])), (t2, .inr (5, [.ref a2, .int 6])), (t3, .inr (5, [.ref a3, .int 3])), (a1, .inl (cI, 240, .inl RA)), (a2, .inl (cI, 30, .inl RI)), (a3, .inl (cI, 36, .inl RC))] := hD
    refine W.eq (g2 := F0 m 99 ls [.int r_10]) rfl ?_
    exact endI hx hb hr hlk hP hK hD hS dX2_number_99 r_10 rfl ⟨(if_neg c1_0).trans ((if_neg c1_1).trans ((if_neg c1_2).trans ((if_neg c1_3).trans ((if_pos c1_4).trans ((bd1_e hk10).trans rfl))))), rfl⟩
  by_cases c1_5 : what = 5
  · refine lv_tableIn (tgt := 100) hx hb dX2_number_1 (by rw [c1_5]; decide) (by rw [c1_5]; decide) (by rw [c1_5]; rfl) (by decide) ?_
    refine lv_aload_n hx hb dX2_number_100 rfl (lv_at hl 0 rfl) ?_
    refine lv_iconst (v := 1) hx hb dX2_number_101 (by decide) ?_
    refine callVi (As := [.int 1]) (rest := []) (mX2_addressesWith l D cI cC cS _ o h t1 t2 t3 a1 a2 a3 RA RI RC na ni dy vl db 1) ⟨hx, hb, hml, hown, hts⟩ (cwV 1 hts gX2_number_X2_addressesWith rfl rfl rfl (by decide +kernel) ⟨Nat.le_of_ble_eq_true rfl, Nat.le_of_ble_eq_true rfl⟩) wN_blind (fun _ _ hW => wN_warm hW hX) hP hK hD hS hA hl [0, 1, 2, 3, 4, 5, 6, 7] rfl rfl 0 1 rfl rfl rfl rfl rfl (Nat.le_of_ble_eq_true rfl) dX2_number_102 ⟨Nat.zero_le _, Nat.zero_le _⟩ (fun _ => rfl) (fun u_ H locs hk12 hP hD hS => ?_)
    obtain ⟨r_12, e_r_12⟩ : ∃ z, z = u_ := ⟨_, rfl⟩
    subst e_r_12
    have hP : va_P D vwCl [(o, .inr (1, [.ref h])), (h, .inr (4, [.ref t1, .ref t2, .ref t3, .int na, .int ni, .int dy, .int vl, .int db])), (t1, .inr (5, [.ref a1, .int 10])), (t2, .inr (5, [.ref a2, .int 6])), (t3, .inr (5, [.ref a3, .int 3])), (a1, .inl (cI, 240, .inl RA)), (a2, .inl (cI, 30, .inl RI)), (a3, .inl (cI, 36, .inl RC))] H := hP
    have hD : va_D Fr [(o, .inr (1, [.ref h])), (h, .inr (4, [.ref t1, .ref t2, .ref t3, .int na, .int ni, .int dy, .int vl, .int db])), (t1, .inr (5, [.ref a1, .int 10])), (t2, .inr (5, [.ref a2, .int 6])), (t3, .inr (5, [.ref a3, .int 3])), (a1, .inl (cI, 240, .inl RA)), (a2, .inl (cI, 30, .inl RI)), (a3, .inl (cI, 36, .inl RC))] := hD
    refine W.eq (g2 := F0 m 105 ls [.int r_12]) rfl ?_
    exact endI hx hb hr hlk hP hK hD hS dX2_number_105 r_12 rfl ⟨(if_neg c1_0).trans ((if_neg c1_1).trans ((if_neg c1_2).trans ((if_neg c1_3).trans ((if_neg c1_4).trans ((if_pos c1_5).trans ((bd1_e hk12).trans rfl)))))), rfl⟩
  by_cases c1_6 : what = 6
  · refine lv_tableIn (tgt := 106) hx hb dX2_number_1 (by rw [c1_6]; decide) (by rw [c1_6]; decide) (by rw [c1_6]; rfl) (by decide) ?_
    refine lv_aload_n hx hb dX2_number_106 rfl (lv_at hl 0 rfl) ?_
    refine callVi (As := []) (rest := []) (mX2_wantedInAll l D cI cC cS _ o h t1 t2 t3 a1 a2 a3 RA RI RC na ni dy vl db) ⟨hx, hb, hml, hown, hts⟩ (cwV 0 hts gX2_number_X2_wantedInAll rfl rfl rfl (by decide +kernel) ⟨Nat.le_of_ble_eq_true rfl, Nat.le_of_ble_eq_true rfl⟩) wN_blind (fun _ _ hW => wN_warm hW hX) hP hK hD hS hA hl [0, 1, 2, 3, 4, 5, 6, 7] rfl rfl 0 1 rfl rfl rfl rfl rfl (Nat.le_of_ble_eq_true rfl) dX2_number_107 ⟨Nat.zero_le _, Nat.zero_le _⟩ (fun _ => rfl) (fun u_ H locs hk14 hP hD hS => ?_)
    obtain ⟨r_14, e_r_14⟩ : ∃ z, z = u_ := ⟨_, rfl⟩
    subst e_r_14
    have hP : va_P D vwCl [(o, .inr (1, [.ref h])), (h, .inr (4, [.ref t1, .ref t2, .ref t3, .int na, .int ni, .int dy, .int vl, .int db])), (t1, .inr (5, [.ref a1, .int 10])), (t2, .inr (5, [.ref a2, .int 6])), (t3, .inr (5, [.ref a3, .int 3])), (a1, .inl (cI, 240, .inl RA)), (a2, .inl (cI, 30, .inl RI)), (a3, .inl (cI, 36, .inl RC))] H := hP
    have hD : va_D Fr [(o, .inr (1, [.ref h])), (h, .inr (4, [.ref t1, .ref t2, .ref t3, .int na, .int ni, .int dy, .int vl, .int db])), (t1, .inr (5, [.ref a1, .int 10])), (t2, .inr (5, [.ref a2, .int 6])), (t3, .inr (5, [.ref a3, .int 3])), (a1, .inl (cI, 240, .inl RA)), (a2, .inl (cI, 30, .inl RI)), (a3, .inl (cI, 36, .inl RC))] := hD
    refine W.eq (g2 := F0 m 110 ls [.int r_14]) rfl ?_
    exact endI hx hb hr hlk hP hK hD hS dX2_number_110 r_14 rfl ⟨(if_neg c1_0).trans ((if_neg c1_1).trans ((if_neg c1_2).trans ((if_neg c1_3).trans ((if_neg c1_4).trans ((if_neg c1_5).trans ((if_pos c1_6).trans ((bd1_e hk14).trans rfl))))))), rfl⟩
  by_cases c1_7 : what = 7
  · refine lv_tableIn (tgt := 111) hx hb dX2_number_1 (by rw [c1_7]; decide) (by rw [c1_7]; decide) (by rw [c1_7]; rfl) (by decide) ?_
    refine lv_aload_n hx hb dX2_number_111 rfl (lv_at hl 0 rfl) ?_
    refine va_get (D := D) (ci := 1) (C := RX2) (T := TX2) (N := 1) hx hb hts w_2 hown hK hP 0 rfl rfl 0 (by decide) w_1 (fun _ h9 => h9) rfl dX2_number_112 ?_
    refine callVi (As := []) (rest := []) (mX5_meetings l D cI cC cS _ h t1 t2 t3 a1 a2 a3 RA RI RC na ni dy vl db) ⟨hx, hb, hml, hown, hts⟩ (cwV 0 hts gX2_number_X5_meetings rfl rfl rfl (by decide +kernel) ⟨Nat.le_of_ble_eq_true rfl, Nat.le_of_ble_eq_true rfl⟩) wN_blind (fun _ _ hW => wN_warm hW hX) hP hK hD hS hA hl [1, 2, 3, 4, 5, 6, 7] rfl rfl 0 4 rfl rfl rfl rfl rfl (Nat.le_of_ble_eq_true rfl) dX2_number_115 ⟨Nat.zero_le _, Nat.zero_le _⟩ (fun _ => rfl) (fun u_ H locs hk16 hP hD hS => ?_)
    obtain ⟨r_16, e_r_16⟩ : ∃ z, z = u_ := ⟨_, rfl⟩
    subst e_r_16
    have hP : va_P D vwCl [(o, .inr (1, [.ref h])), (h, .inr (4, [.ref t1, .ref t2, .ref t3, .int na, .int ni, .int dy, .int vl, .int db])), (t1, .inr (5, [.ref a1, .int 10])), (t2, .inr (5, [.ref a2, .int 6])), (t3, .inr (5, [.ref a3, .int 3])), (a1, .inl (cI, 240, .inl RA)), (a2, .inl (cI, 30, .inl RI)), (a3, .inl (cI, 36, .inl RC))] H := hP
    have hD : va_D Fr [(o, .inr (1, [.ref h])), (h, .inr (4, [.ref t1, .ref t2, .ref t3, .int na, .int ni, .int dy, .int vl, .int db])), (t1, .inr (5, [.ref a1, .int 10])), (t2, .inr (5, [.ref a2, .int 6])), (t3, .inr (5, [.ref a3, .int 3])), (a1, .inl (cI, 240, .inl RA)), (a2, .inl (cI, 30, .inl RI)), (a3, .inl (cI, 36, .inl RC))] := hD
    refine W.eq (g2 := F0 m 118 ls [.int r_16]) rfl ?_
    exact endI hx hb hr hlk hP hK hD hS dX2_number_118 r_16 rfl ⟨(if_neg c1_0).trans ((if_neg c1_1).trans ((if_neg c1_2).trans ((if_neg c1_3).trans ((if_neg c1_4).trans ((if_neg c1_5).trans ((if_neg c1_6).trans ((if_pos c1_7).trans ((bd1_e hk16).trans rfl)))))))), rfl⟩
  by_cases c1_8 : what = 8
  · refine lv_tableIn (tgt := 135) hx hb dX2_number_1 (by rw [c1_8]; decide) (by rw [c1_8]; decide) (by rw [c1_8]; rfl) (by decide) ?_
    refine lv_iconst (v := (-1)) hx hb dX2_number_135 (by decide) ?_
    exact endI hx hb hr hlk hP hK hD hS dX2_number_136 (-1) rfl ⟨(if_neg c1_0).trans ((if_neg c1_1).trans ((if_neg c1_2).trans ((if_neg c1_3).trans ((if_neg c1_4).trans ((if_neg c1_5).trans ((if_neg c1_6).trans ((if_neg c1_7).trans ((if_pos c1_8).trans rfl)))))))), rfl⟩
  by_cases c1_9 : what = 9
  · refine lv_tableIn (tgt := 135) hx hb dX2_number_1 (by rw [c1_9]; decide) (by rw [c1_9]; decide) (by rw [c1_9]; rfl) (by decide) ?_
    refine lv_iconst (v := (-1)) hx hb dX2_number_135 (by decide) ?_
    exact endI hx hb hr hlk hP hK hD hS dX2_number_136 (-1) rfl ⟨(if_neg c1_0).trans ((if_neg c1_1).trans ((if_neg c1_2).trans ((if_neg c1_3).trans ((if_neg c1_4).trans ((if_neg c1_5).trans ((if_neg c1_6).trans ((if_neg c1_7).trans ((if_neg c1_8).trans ((if_pos c1_9).trans rfl))))))))), rfl⟩
  by_cases c1_10 : what = 10
  · refine lv_tableIn (tgt := 119) hx hb dX2_number_1 (by rw [c1_10]; decide) (by rw [c1_10]; decide) (by rw [c1_10]; rfl) (by decide) ?_
    refine lv_aload_n hx hb dX2_number_119 rfl (lv_at hl 0 rfl) ?_
    refine va_get (D := D) (ci := 1) (C := RX2) (T := TX2) (N := 1) hx hb hts w_2 hown hK hP 0 rfl rfl 0 (by decide) w_1 (fun _ h9 => h9) rfl dX2_number_120 ?_
    refine callVi (As := []) (rest := []) (mX5_vainLimit l D cI cC cS _ h t1 t2 t3 a1 a2 a3 RA RI RC na ni dy vl db) ⟨hx, hb, hml, hown, hts⟩ (cwV 0 hts gX2_number_X5_vainLimit rfl rfl rfl (by decide +kernel) ⟨Nat.le_of_ble_eq_true rfl, Nat.le_of_ble_eq_true rfl⟩) wN_blind (fun _ _ hW => wN_warm hW hX) hP hK hD hS hA hl [1, 2, 3, 4, 5, 6, 7] rfl rfl 0 4 rfl rfl rfl rfl rfl (Nat.le_of_ble_eq_true rfl) dX2_number_123 ⟨Nat.zero_le _, Nat.zero_le _⟩ (fun _ => rfl) (fun u_ H locs hk18 hP hD hS => ?_)
    obtain ⟨r_18, e_r_18⟩ : ∃ z, z = u_ := ⟨_, rfl⟩
    subst e_r_18
    have hP : va_P D vwCl [(o, .inr (1, [.ref h])), (h, .inr (4, [.ref t1, .ref t2, .ref t3, .int na, .int ni, .int dy, .int vl, .int db])), (t1, .inr (5, [.ref a1, .int 10])), (t2, .inr (5, [.ref a2, .int 6])), (t3, .inr (5, [.ref a3, .int 3])), (a1, .inl (cI, 240, .inl RA)), (a2, .inl (cI, 30, .inl RI)), (a3, .inl (cI, 36, .inl RC))] H := hP
    have hD : va_D Fr [(o, .inr (1, [.ref h])), (h, .inr (4, [.ref t1, .ref t2, .ref t3, .int na, .int ni, .int dy, .int vl, .int db])), (t1, .inr (5, [.ref a1, .int 10])), (t2, .inr (5, [.ref a2, .int 6])), (t3, .inr (5, [.ref a3, .int 3])), (a1, .inl (cI, 240, .inl RA)), (a2, .inl (cI, 30, .inl RI)), (a3, .inl (cI, 36, .inl RC))] := hD
    have hk18 : vl = r_18 := hk18
    subst hk18
    refine W.eq (g2 := F0 m 126 ls [.int vl]) rfl ?_
    exact endI hx hb hr hlk hP hK hD hS dX2_number_126 vl rfl ⟨(if_neg c1_0).trans ((if_neg c1_1).trans ((if_neg c1_2).trans ((if_neg c1_3).trans ((if_neg c1_4).trans ((if_neg c1_5).trans ((if_neg c1_6).trans ((if_neg c1_7).trans ((if_neg c1_8).trans ((if_neg c1_9).trans ((if_pos c1_10).trans rfl)))))))))), rfl⟩
  by_cases c1_11 : what = 11
  · refine lv_tableIn (tgt := 127) hx hb dX2_number_1 (by rw [c1_11]; decide) (by rw [c1_11]; decide) (by rw [c1_11]; rfl) (by decide) ?_
    refine lv_aload_n hx hb dX2_number_127 rfl (lv_at hl 0 rfl) ?_
    refine va_get (D := D) (ci := 1) (C := RX2) (T := TX2) (N := 1) hx hb hts w_2 hown hK hP 0 rfl rfl 0 (by decide) w_1 (fun _ h9 => h9) rfl dX2_number_128 ?_
    refine callVi (As := []) (rest := []) (mX5_daysBetween l D cI cC cS _ h t1 t2 t3 a1 a2 a3 RA RI RC na ni dy vl db) ⟨hx, hb, hml, hown, hts⟩ (cwV 0 hts gX2_number_X5_daysBetween rfl rfl rfl (by decide +kernel) ⟨Nat.le_of_ble_eq_true rfl, Nat.le_of_ble_eq_true rfl⟩) wN_blind (fun _ _ hW => wN_warm hW hX) hP hK hD hS hA hl [1, 2, 3, 4, 5, 6, 7] rfl rfl 0 4 rfl rfl rfl rfl rfl (Nat.le_of_ble_eq_true rfl) dX2_number_131 ⟨Nat.zero_le _, Nat.zero_le _⟩ (fun _ => rfl) (fun u_ H locs hk20 hP hD hS => ?_)
    obtain ⟨r_20, e_r_20⟩ : ∃ z, z = u_ := ⟨_, rfl⟩
    subst e_r_20
    have hP : va_P D vwCl [(o, .inr (1, [.ref h])), (h, .inr (4, [.ref t1, .ref t2, .ref t3, .int na, .int ni, .int dy, .int vl, .int db])), (t1, .inr (5, [.ref a1, .int 10])), (t2, .inr (5, [.ref a2, .int 6])), (t3, .inr (5, [.ref a3, .int 3])), (a1, .inl (cI, 240, .inl RA)), (a2, .inl (cI, 30, .inl RI)), (a3, .inl (cI, 36, .inl RC))] H := hP
    have hD : va_D Fr [(o, .inr (1, [.ref h])), (h, .inr (4, [.ref t1, .ref t2, .ref t3, .int na, .int ni, .int dy, .int vl, .int db])), (t1, .inr (5, [.ref a1, .int 10])), (t2, .inr (5, [.ref a2, .int 6])), (t3, .inr (5, [.ref a3, .int 3])), (a1, .inl (cI, 240, .inl RA)), (a2, .inl (cI, 30, .inl RI)), (a3, .inl (cI, 36, .inl RC))] := hD
    have hk20 : db = r_20 := hk20
    subst hk20
    refine W.eq (g2 := F0 m 134 ls [.int db]) rfl ?_
    exact endI hx hb hr hlk hP hK hD hS dX2_number_134 db rfl ⟨(if_neg c1_0).trans ((if_neg c1_1).trans ((if_neg c1_2).trans ((if_neg c1_3).trans ((if_neg c1_4).trans ((if_neg c1_5).trans ((if_neg c1_6).trans ((if_neg c1_7).trans ((if_neg c1_8).trans ((if_neg c1_9).trans ((if_neg c1_10).trans ((if_pos c1_11).trans rfl))))))))))), rfl⟩
  refine lv_tableOut (tgt := 135) hx hb dX2_number_1 (tab_out (lo := 0) (hi := 11) (by decide) (fun k hk1 hk2 => ?_)) (by decide) ?_
  · rcases (show k = 0 ∨ k = 1 ∨ k = 2 ∨ k = 3 ∨ k = 4 ∨ k = 5 ∨ k = 6 ∨ k = 7 ∨ k = 8 ∨ k = 9 ∨ k = 10 ∨ k = 11 by omega) with rfl | rfl | rfl | rfl | rfl | rfl | rfl | rfl | rfl | rfl | rfl | rfl
    · exact ne_ti c1_0 (by decide)
    · exact ne_ti c1_1 (by decide)
    · exact ne_ti c1_2 (by decide)
    · exact ne_ti c1_3 (by decide)
    · exact ne_ti c1_4 (by decide)
    · exact ne_ti c1_5 (by decide)
    · exact ne_ti c1_6 (by decide)
    · exact ne_ti c1_7 (by decide)
    · exact ne_ti c1_8 (by decide)
    · exact ne_ti c1_9 (by decide)
    · exact ne_ti c1_10 (by decide)
    · exact ne_ti c1_11 (by decide)
  refine lv_iconst (v := (-1)) hx hb dX2_number_135 (by decide) ?_
  exact endI hx hb hr hlk hP hK hD hS dX2_number_136 (-1) rfl ⟨(if_neg c1_0).trans ((if_neg c1_1).trans ((if_neg c1_2).trans ((if_neg c1_3).trans ((if_neg c1_4).trans ((if_neg c1_5).trans ((if_neg c1_6).trans ((if_neg c1_7).trans ((if_neg c1_8).trans ((if_neg c1_9).trans ((if_neg c1_10).trans ((if_neg c1_11).trans rfl))))))))))), rfl⟩

/-- the value of X2_daysNeeded, path by path -/
def fX2_daysNeeded (RA : Nat → Int32) (RI : Nat → Int32) (na : Int32) (ni : Int32) (vl : Int32) : Int32 :=
  bd1 (fX2_callsNeeded RA na vl) (fun (r_2 : Int32) => (if r_2 = 0 then 0 else bd1 (fX2_sumOfInterviewers RI ni 1) (fun (r_4 : Int32) => (if (0 : Int32) < r_4 then bd1 (fX2_sumOfInterviewers RI ni 2) (fun (r_6 : Int32) => bd1 (r_2 - (r_4 - r_6)) (fun (y_7 : Int32) => (if (0 : Int32) < y_7 then 1 + (((y_7 + r_4) - 1) / r_4) else 1))) else (-4)))))

set_option maxHeartbeats 4000000 in
set_option maxRecDepth 100000 in
/-- X2_daysNeeded -/
theorem mX2_daysNeeded (l : Launch) (D : va_G) (cI cC cS : ClassId) (sz : Nat) (o : Nat) (h : Nat) (t1 : Nat) (t2 : Nat) (t3 : Nat) (a1 : Nat) (a2 : Nat) (a3 : Nat) (RA : Nat → Int32) (RI : Nat → Int32) (RC : Nat → Int32) (na : Int32) (ni : Int32) (dy : Int32) (vl : Int32) (db : Int32)  : Met l yX2_daysNeeded wsX2_daysNeeded ({ frames := 3, cells := 0, slots := 0, locals := 68 } : Jvm.Room) (va_Pc [.ref o] (wPre D (TY cI cC cS) [(o, .inr (1, [.ref h])), (h, .inr (4, [.ref t1, .ref t2, .ref t3, .int na, .int ni, .int dy, .int vl, .int db])), (t1, .inr (5, [.ref a1, .int 10])), (t2, .inr (5, [.ref a2, .int 6])), (t3, .inr (5, [.ref a3, .int 3])), (a1, .inl (cI, 240, .inl RA)), (a2, .inl (cI, 30, .inl RI)), (a3, .inl (cI, 36, .inl RC))] sz wN)) (qI D (TY cI cC cS) (fun (r : Int32) (u : Int32) => fX2_daysNeeded RA RI na ni vl = u ∧ r = u) (fun u => [(o, .inr (1, [.ref h])), (h, .inr (4, [.ref t1, .ref t2, .ref t3, .int na, .int ni, .int dy, .int vl, .int db])), (t1, .inr (5, [.ref a1, .int 10])), (t2, .inr (5, [.ref a2, .int 6])), (t3, .inr (5, [.ref a3, .int 3])), (a1, .inl (cI, 240, .inl RA)), (a2, .inl (cI, 30, .inl RI)), (a3, .inl (cI, 36, .inl RC))]) (va_A [(o, .inr (1, [.ref h])), (h, .inr (4, [.ref t1, .ref t2, .ref t3, .int na, .int ni, .int dy, .int vl, .int db])), (t1, .inr (5, [.ref a1, .int 10])), (t2, .inr (5, [.ref a2, .int 6])), (t3, .inr (5, [.ref a3, .int 3])), (a1, .inl (cI, 240, .inl RA)), (a2, .inl (cI, 30, .inl RI)), (a3, .inl (cI, 36, .inl RC))] sz)) 0 0 (va_A [(o, .inr (1, [.ref h])), (h, .inr (4, [.ref t1, .ref t2, .ref t3, .int na, .int ni, .int dy, .int vl, .int db])), (t1, .inr (5, [.ref a1, .int 10])), (t2, .inr (5, [.ref a2, .int 6])), (t3, .inr (5, [.ref a3, .int 3])), (a1, .inl (cI, 240, .inl RA)), (a2, .inl (cI, 30, .inl RI)), (a3, .inl (cI, 36, .inl RC))] sz) := by
  refine mkM (fun Fr => qI D (TY cI cC cS) (fun (r : Int32) (u : Int32) => fX2_daysNeeded RA RI na ni vl = u ∧ r = u) (fun u => [(o, .inr (1, [.ref h])), (h, .inr (4, [.ref t1, .ref t2, .ref t3, .int na, .int ni, .int dy, .int vl, .int db])), (t1, .inr (5, [.ref a1, .int 10])), (t2, .inr (5, [.ref a2, .int 6])), (t3, .inr (5, [.ref a3, .int 3])), (a1, .inl (cI, 240, .inl RA)), (a2, .inl (cI, 30, .inl RI)), (a3, .inl (cI, 36, .inl RC))]) Fr) (cc := cX2_daysNeeded) (maxL := 4) (ret := (some .int)) (own := RX2) (lv := [(0, .ref o)]) (by decide) rfl rfl (Nat.le_of_ble_eq_true rfl) rfl ?_
  intro p e s m below meth c Fr ls hx hb hr hts hown hml hlk hin hP hK hD hS hA hAe hsz hX hl
  refine lv_aload_n hx hb dX2_daysNeeded_0 rfl (lv_at hl 0 rfl) ?_
  refine callVi (As := []) (rest := []) (mX2_callsNeeded l D cI cC cS _ o h t1 t2 t3 a1 a2 a3 RA RI RC na ni dy vl db) ⟨hx, hb, hml, hown, hts⟩ (cwV 0 hts gX2_daysNeeded_X2_callsNeeded rfl rfl rfl (by decide +kernel) ⟨Nat.le_of_ble_eq_true rfl, Nat.le_of_ble_eq_true rfl⟩) wN_blind (fun _ _ hW => wN_warm hW hX) hP hK hD hS hA hl [0, 1, 2, 3, 4, 5, 6, 7] rfl rfl 0 1 rfl rfl rfl rfl rfl (Nat.le_of_ble_eq_true rfl) dX2_daysNeeded_1 ⟨Nat.zero_le _, Nat.zero_le _⟩ (fun _ => rfl) (fun u_ H locs hk2 hP hD hS => ?_)
  obtain ⟨r_2, e_r_2⟩ : ∃ z, z = u_ := ⟨_, rfl⟩
  subst e_r_2
  have hP : va_P D vwCl [(o, .inr (1, [.ref h])), (h, .inr (4, [.ref t1, .ref t2, .ref t3, .int na, .int ni, .int dy, .int vl, .int db])), (t1, .inr (5, [.ref a1, .int 10])), (t2, .inr (5, [.ref a2, .int 6])), (t3, .inr (5, [.ref a3, .int 3])), (a1, .inl (cI, 240, .inl RA)), (a2, .inl (cI, 30, .inl RI)), (a3, .inl (cI, 36, .inl RC))] H := hP
  have hD : va_D Fr [(o, .inr (1, [.ref h])), (h, .inr (4, [.ref t1, .ref t2, .ref t3, .int na, .int ni, .int dy, .int vl, .int db])), (t1, .inr (5, [.ref a1, .int 10])), (t2, .inr (5, [.ref a2, .int 6])), (t3, .inr (5, [.ref a3, .int 3])), (a1, .inl (cI, 240, .inl RA)), (a2, .inl (cI, 30, .inl RI)), (a3, .inl (cI, 36, .inl RC))] := hD
  refine W.eq (g2 := F0 m 4 ls [.int r_2]) rfl ?_
  refine lv_istore_n (lv' := [(1, .int r_2), (0, .ref o)]) hx hb dX2_daysNeeded_4 rfl hl (by decide) rfl (fun ls hl => ?_)
  refine lv_iload_n hx hb dX2_daysNeeded_5 rfl (lv_at hl 0 rfl) ?_
  refine lv_if_ne (tgt := 11) hx hb dX2_daysNeeded_6 (by decide) (fun c6 => ?_) (fun c6 => ?_)
  · refine lv_aload_n hx hb dX2_daysNeeded_11 rfl (lv_at hl 1 rfl) ?_
    refine lv_iconst (v := 1) hx hb dX2_daysNeeded_12 (by decide) ?_
    refine callVi (As := [.int 1]) (rest := []) (mX2_sumOfInterviewers l D cI cC cS _ o h t1 t2 t3 a1 a2 a3 RA RI RC na ni dy vl db 1) ⟨hx, hb, hml, hown, hts⟩ (cwV 1 hts gX2_daysNeeded_X2_sumOfInterviewers rfl rfl rfl (by decide +kernel) ⟨Nat.le_of_ble_eq_true rfl, Nat.le_of_ble_eq_true rfl⟩) wN_blind (fun _ _ hW => wN_warm hW hX) hP hK hD hS hA hl [0, 1, 2, 3, 4, 5, 6, 7] rfl rfl 0 1 rfl rfl rfl rfl rfl (Nat.le_of_ble_eq_true rfl) dX2_daysNeeded_13 ⟨Nat.zero_le _, Nat.zero_le _⟩ (fun _ => rfl) (fun u_ H locs hk4 hP hD hS => ?_)
    obtain ⟨r_4, e_r_4⟩ : ∃ z, z = u_ := ⟨_, rfl⟩
    subst e_r_4
    have hP : va_P D vwCl [(o, .inr (1, [.ref h])), (h, .inr (4, [.ref t1, .ref t2, .ref t3, .int na, .int ni, .int dy, .int vl, .int db])), (t1, .inr (5, [.ref a1, .int 10])), (t2, .inr (5, [.ref a2, .int 6])), (t3, .inr (5, [.ref a3, .int 3])), (a1, .inl (cI, 240, .inl RA)), (a2, .inl (cI, 30, .inl RI)), (a3, .inl (cI, 36, .inl RC))] H := hP
    have hD : va_D Fr [(o, .inr (1, [.ref h])), (h, .inr (4, [.ref t1, .ref t2, .ref t3, .int na, .int ni, .int dy, .int vl, .int db])), (t1, .inr (5, [.ref a1, .int 10])), (t2, .inr (5, [.ref a2, .int 6])), (t3, .inr (5, [.ref a3, .int 3])), (a1, .inl (cI, 240, .inl RA)), (a2, .inl (cI, 30, .inl RI)), (a3, .inl (cI, 36, .inl RC))] := hD
    refine W.eq (g2 := F0 m 16 ls [.int r_4]) rfl ?_
    refine lv_istore_n (lv' := [(2, .int r_4), (1, .int r_2), (0, .ref o)]) hx hb dX2_daysNeeded_16 rfl hl (by decide) rfl (fun ls hl => ?_)
    refine lv_iload_n hx hb dX2_daysNeeded_17 rfl (lv_at hl 0 rfl) ?_
    refine lv_if_gt (tgt := 24) hx hb dX2_daysNeeded_18 (by decide) (fun c18 => ?_) (fun c18 => ?_)
    · refine lv_iload_n hx hb dX2_daysNeeded_24 rfl (lv_at hl 1 rfl) ?_
      refine lv_iload_n hx hb dX2_daysNeeded_25 rfl (lv_at hl 0 rfl) ?_
      refine lv_aload_n hx hb dX2_daysNeeded_26 rfl (lv_at hl 2 rfl) ?_
      refine lv_iconst (v := 2) hx hb dX2_daysNeeded_27 (by decide) ?_
      refine callVi (As := [.int 2]) (rest := [.int r_4, .int r_2]) (mX2_sumOfInterviewers l D cI cC cS _ o h t1 t2 t3 a1 a2 a3 RA RI RC na ni dy vl db 2) ⟨hx, hb, hml, hown, hts⟩ (cwV 1 hts gX2_daysNeeded_X2_sumOfInterviewers rfl rfl rfl (by decide +kernel) ⟨Nat.le_of_ble_eq_true rfl, Nat.le_of_ble_eq_true rfl⟩) wN_blind (fun _ _ hW => wN_warm hW hX) hP hK hD hS hA hl [0, 1, 2, 3, 4, 5, 6, 7] rfl rfl 0 1 rfl rfl rfl rfl rfl (Nat.le_of_ble_eq_true rfl) dX2_daysNeeded_28 ⟨Nat.zero_le _, Nat.zero_le _⟩ (fun _ => rfl) (fun u_ H locs hk6 hP hD hS => ?_)
      obtain ⟨r_6, e_r_6⟩ : ∃ z, z = u_ := ⟨_, rfl⟩
      subst e_r_6
      have hP : va_P D vwCl [(o, .inr (1, [.ref h])), (h, .inr (4, [.ref t1, .ref t2, .ref t3, .int na, .int ni, .int dy, .int vl, .int db])), (t1, .inr (5, [.ref a1, .int 10])), (t2, .inr (5, [.ref a2, .int 6])), (t3, .inr (5, [.ref a3, .int 3])), (a1, .inl (cI, 240, .inl RA)), (a2, .inl (cI, 30, .inl RI)), (a3, .inl (cI, 36, .inl RC))] H := hP
      have hD : va_D Fr [(o, .inr (1, [.ref h])), (h, .inr (4, [.ref t1, .ref t2, .ref t3, .int na, .int ni, .int dy, .int vl, .int db])), (t1, .inr (5, [.ref a1, .int 10])), (t2, .inr (5, [.ref a2, .int 6])), (t3, .inr (5, [.ref a3, .int 3])), (a1, .inl (cI, 240, .inl RA)), (a2, .inl (cI, 30, .inl RI)), (a3, .inl (cI, 36, .inl RC))] := hD
      refine W.eq (g2 := F0 m 31 ls [.int r_6, .int r_4, .int r_2]) rfl ?_
      refine lv_isub hx hb dX2_daysNeeded_31 ?_
      refine lv_isub hx hb dX2_daysNeeded_32 ?_
      refine lv_topi (fun y_7 ey_7 => ?_)
      refine lv_istore_n (lv' := [(3, .int y_7), (2, .int r_4), (1, .int r_2), (0, .ref o)]) hx hb dX2_daysNeeded_33 rfl hl (by decide) rfl (fun ls hl => ?_)
      refine lv_iload_n hx hb dX2_daysNeeded_34 rfl (lv_at hl 0 rfl) ?_
      refine lv_if_gt (tgt := 40) hx hb dX2_daysNeeded_35 (by decide) (fun c35 => ?_) (fun c35 => ?_)
      · refine lv_iconst (v := 1) hx hb dX2_daysNeeded_40 (by decide) ?_
        refine lv_iload_n hx hb dX2_daysNeeded_41 rfl (lv_at hl 0 rfl) ?_
        refine lv_iload_n hx hb dX2_daysNeeded_42 rfl (lv_at hl 1 rfl) ?_
        refine lv_iadd hx hb dX2_daysNeeded_43 ?_
        refine lv_iconst (v := 1) hx hb dX2_daysNeeded_44 (by decide) ?_
        refine lv_isub hx hb dX2_daysNeeded_45 ?_
        refine lv_iload_n hx hb dX2_daysNeeded_46 rfl (lv_at hl 1 rfl) ?_
        refine lv_idiv hx hb dX2_daysNeeded_47 (fun h => absurd c18 (by rw [h]; decide)) ?_
        refine lv_iadd hx hb dX2_daysNeeded_48 ?_
        exact endI hx hb hr hlk hP hK hD hS dX2_daysNeeded_49 (1 + (((y_7 + r_4) - 1) / r_4)) rfl ⟨(bd1_e hk2).trans ((if_neg c6).trans ((bd1_e hk4).trans ((if_pos c18).trans ((bd1_e hk6).trans ((bd1_n ey_7).trans ((if_pos c35).trans rfl)))))), rfl⟩
      · refine lv_iconst (v := 1) hx hb dX2_daysNeeded_38 (by decide) ?_
        exact endI hx hb hr hlk hP hK hD hS dX2_daysNeeded_39 1 rfl ⟨(bd1_e hk2).trans ((if_neg c6).trans ((bd1_e hk4).trans ((if_pos c18).trans ((bd1_e hk6).trans ((bd1_n ey_7).trans ((if_neg c35).trans rfl)))))), rfl⟩
    · refine lv_bipush (v := (-4)) hx hb dX2_daysNeeded_21 (by decide) ?_
      exact endI hx hb hr hlk hP hK hD hS dX2_daysNeeded_23 (-4) rfl ⟨(bd1_e hk2).trans ((if_neg c6).trans ((bd1_e hk4).trans ((if_neg c18).trans rfl))), rfl⟩
  · refine lv_iconst (v := 0) hx hb dX2_daysNeeded_9 (by decide) ?_
    exact endI hx hb hr hlk hP hK hD hS dX2_daysNeeded_10 0 rfl ⟨(bd1_e hk2).trans ((if_pos c6).trans rfl), rfl⟩

