/-- the value of X2_weightOf, path by path -/
def fX2_weightOf (RC : Nat → Int32) (area : Int32) (group : Int32) : UInt32 :=
  bd1 (fX5_ofCell RC area group 1) (fun (r_2 : Int32) => (if (0 : Int32) < r_2 then bd1 (fX5_ofCell RC area group 2) (fun (r_4 : Int32) => FP.fdiv (FP.i2f r_4) (FP.i2f r_2)) else FP.fconst0))

set_option maxHeartbeats 4000000 in
set_option maxRecDepth 100000 in
/-- X2_weightOf -/
theorem mX2_weightOf (l : Launch) (D : va_G) (cI cC cS : ClassId) (sz : Nat) (o : Nat) (h : Nat) (t1 : Nat) (t2 : Nat) (t3 : Nat) (a1 : Nat) (a2 : Nat) (a3 : Nat) (RA : Nat → Int32) (RI : Nat → Int32) (RC : Nat → Int32) (na : Int32) (ni : Int32) (dy : Int32) (vl : Int32) (db : Int32) (area : Int32) (group : Int32)  : Met l yX2_weightOf wsX2_weightOf ({ frames := 2, cells := 0, slots := 0, locals := 46 } : Jvm.Room) (va_Pc [.ref o, .int area, .int group] (wPre D (TY cI cC cS) [(o, .inr (1, [.ref h])), (h, .inr (4, [.ref t1, .ref t2, .ref t3, .int na, .int ni, .int dy, .int vl, .int db])), (t1, .inr (5, [.ref a1, .int 10])), (t2, .inr (5, [.ref a2, .int 6])), (t3, .inr (5, [.ref a3, .int 3])), (a1, .inl (cI, 240, .inl RA)), (a2, .inl (cI, 30, .inl RI)), (a3, .inl (cI, 36, .inl RC))] sz wN)) (qF D (TY cI cC cS) (fun (r : UInt32) (u : UInt32) => fX2_weightOf RC area group = u ∧ r = u) (fun u => [(o, .inr (1, [.ref h])), (h, .inr (4, [.ref t1, .ref t2, .ref t3, .int na, .int ni, .int dy, .int vl, .int db])), (t1, .inr (5, [.ref a1, .int 10])), (t2, .inr (5, [.ref a2, .int 6])), (t3, .inr (5, [.ref a3, .int 3])), (a1, .inl (cI, 240, .inl RA)), (a2, .inl (cI, 30, .inl RI)), (a3, .inl (cI, 36, .inl RC))]) (va_A [(o, .inr (1, [.ref h])), (h, .inr (4, [.ref t1, .ref t2, .ref t3, .int na, .int ni, .int dy, .int vl, .int db])), (t1, .inr (5, [.ref a1, .int 10])), (t2, .inr (5, [.ref a2, .int 6])), (t3, .inr (5, [.ref a3, .int 3])), (a1, .inl (cI, 240, .inl RA)), (a2, .inl (cI, 30, .inl RI)), (a3, .inl (cI, 36, .inl RC))] sz)) 0 0 (va_A [(o, .inr (1, [.ref h])), (h, .inr (4, [.ref t1, .ref t2, .ref t3, .int na, .int ni, .int dy, .int vl, .int db])), (t1, .inr (5, [.ref a1, .int 10])), (t2, .inr (5, [.ref a2, .int 6])), (t3, .inr (5, [.ref a3, .int 3])), (a1, .inl (cI, 240, .inl RA)), (a2, .inl (cI, 30, .inl RI)), (a3, .inl (cI, 36, .inl RC))] sz) := by
  refine mkM (y := yX2_weightOf) (wsl := wsX2_weightOf) (fun Fr => qF D (TY cI cC cS) (fun (r : UInt32) (u : UInt32) => fX2_weightOf RC area group = u ∧ r = u) (fun u => [(o, .inr (1, [.ref h])), (h, .inr (4, [.ref t1, .ref t2, .ref t3, .int na, .int ni, .int dy, .int vl, .int db])), (t1, .inr (5, [.ref a1, .int 10])), (t2, .inr (5, [.ref a2, .int 6])), (t3, .inr (5, [.ref a3, .int 3])), (a1, .inl (cI, 240, .inl RA)), (a2, .inl (cI, 30, .inl RI)), (a3, .inl (cI, 36, .inl RC))]) Fr) (cc := cX2_weightOf) (maxL := 4) (ret := (some .float)) (own := RX2) (lv := [(0, .ref o), (1, .int area), (2, .int group)]) (by decide) rfl rfl (Nat.le_of_ble_eq_true rfl) rfl ?_
  intro p e s m below meth c Fr ls hx hb hr hts hown hml hlk hin hP hK hD hS hA hAe hsz hX hl
  have w_1 := hts (.fieldLink RX2 9 "FieldQuotas$Overview" "survey" "LFieldQuotas$Survey;") (List.mem_of_getElem? (i := 1) rfl)
  have w_2 := sub_r (big := wsX2_weightOf) (u_ws RX2 TX2 1) [15] rfl
  refine lv_aload_n hx hb dX2_weightOf_0 rfl (lv_at hl 0 rfl) ?_
  refine va_get (D := D) (ci := 1) (C := RX2) (T := TX2) (N := 1) hx hb hts w_2 hown hK hP 0 rfl rfl 0 (by decide) w_1 (fun _ h9 => h9) rfl dX2_weightOf_1 ?_
  refine lv_iload_n hx hb dX2_weightOf_4 rfl (lv_at hl 1 rfl) ?_
  refine lv_iload_n hx hb dX2_weightOf_5 rfl (lv_at hl 2 rfl) ?_
  refine lv_iconst (v := 1) hx hb dX2_weightOf_6 (by decide) ?_
  refine callVi (As := [.int area, .int group, .int 1]) (rest := []) (mX5_ofCell l D cI cC cS _ h t1 t2 t3 a1 a2 a3 RA RI RC na ni dy vl db area group 1) ⟨hx, hb, hml, hown, hts⟩ (cwV 3 hts gX2_weightOf_X5_ofCell rfl rfl rfl (by decide +kernel) ⟨Nat.le_of_ble_eq_true rfl, Nat.le_of_ble_eq_true rfl⟩) wN_blind (fun _ _ hW => wN_warm hW hX) hP hK hD hS hA hl [1, 2, 3, 4, 5, 6, 7] rfl rfl 0 4 rfl rfl rfl rfl rfl (Nat.le_of_ble_eq_true rfl) dX2_weightOf_7 ⟨Nat.zero_le _, Nat.zero_le _⟩ (fun _ => rfl) (fun u_ H locs hk2 hP hD hS => ?_)
  obtain ⟨r_2, e_r_2⟩ : ∃ z, z = u_ := ⟨_, rfl⟩
  subst e_r_2
  have hP : va_P D vwCl [(o, .inr (1, [.ref h])), (h, .inr (4, [.ref t1, .ref t2, .ref t3, .int na, .int ni, .int dy, .int vl, .int db])), (t1, .inr (5, [.ref a1, .int 10])), (t2, .inr (5, [.ref a2, .int 6])), (t3, .inr (5, [.ref a3, .int 3])), (a1, .inl (cI, 240, .inl RA)), (a2, .inl (cI, 30, .inl RI)), (a3, .inl (cI, 36, .inl RC))] H := hP
  have hD : va_D Fr [(o, .inr (1, [.ref h])), (h, .inr (4, [.ref t1, .ref t2, .ref t3, .int na, .int ni, .int dy, .int vl, .int db])), (t1, .inr (5, [.ref a1, .int 10])), (t2, .inr (5, [.ref a2, .int 6])), (t3, .inr (5, [.ref a3, .int 3])), (a1, .inl (cI, 240, .inl RA)), (a2, .inl (cI, 30, .inl RI)), (a3, .inl (cI, 36, .inl RC))] := hD
  refine W.eq (g2 := F0 m 10 ls [.int r_2]) rfl ?_
  refine lv_istore_n (lv' := [(3, .int r_2), (0, .ref o), (1, .int area), (2, .int group)]) hx hb dX2_weightOf_10 rfl hl (by decide) rfl (fun ls hl => ?_)
  refine lv_iload_n hx hb dX2_weightOf_11 rfl (lv_at hl 0 rfl) ?_
  refine lv_if_gt (tgt := 17) hx hb dX2_weightOf_12 (by decide) (fun c12 => ?_) (fun c12 => ?_)
  · refine lv_aload_n hx hb dX2_weightOf_17 rfl (lv_at hl 1 rfl) ?_
    refine va_get (D := D) (ci := 1) (C := RX2) (T := TX2) (N := 1) hx hb hts w_2 hown hK hP 0 rfl rfl 0 (by decide) w_1 (fun _ h9 => h9) rfl dX2_weightOf_18 ?_
    refine lv_iload_n hx hb dX2_weightOf_21 rfl (lv_at hl 2 rfl) ?_
    refine lv_iload_n hx hb dX2_weightOf_22 rfl (lv_at hl 3 rfl) ?_
    refine lv_iconst (v := 2) hx hb dX2_weightOf_23 (by decide) ?_
    refine callVi (As := [.int area, .int group, .int 2]) (rest := []) (mX5_ofCell l D cI cC cS _ h t1 t2 t3 a1 a2 a3 RA RI RC na ni dy vl db area group 2) ⟨hx, hb, hml, hown, hts⟩ (cwV 3 hts gX2_weightOf_X5_ofCell rfl rfl rfl (by decide +kernel) ⟨Nat.le_of_ble_eq_true rfl, Nat.le_of_ble_eq_true rfl⟩) wN_blind (fun _ _ hW => wN_warm hW hX) hP hK hD hS hA hl [1, 2, 3, 4, 5, 6, 7] rfl rfl 0 4 rfl rfl rfl rfl rfl (Nat.le_of_ble_eq_true rfl) dX2_weightOf_24 ⟨Nat.zero_le _, Nat.zero_le _⟩ (fun _ => rfl) (fun u_ H locs hk4 hP hD hS => ?_)
    obtain ⟨r_4, e_r_4⟩ : ∃ z, z = u_ := ⟨_, rfl⟩
    subst e_r_4
    have hP : va_P D vwCl [(o, .inr (1, [.ref h])), (h, .inr (4, [.ref t1, .ref t2, .ref t3, .int na, .int ni, .int dy, .int vl, .int db])), (t1, .inr (5, [.ref a1, .int 10])), (t2, .inr (5, [.ref a2, .int 6])), (t3, .inr (5, [.ref a3, .int 3])), (a1, .inl (cI, 240, .inl RA)), (a2, .inl (cI, 30, .inl RI)), (a3, .inl (cI, 36, .inl RC))] H := hP
    have hD : va_D Fr [(o, .inr (1, [.ref h])), (h, .inr (4, [.ref t1, .ref t2, .ref t3, .int na, .int ni, .int dy, .int vl, .int db])), (t1, .inr (5, [.ref a1, .int 10])), (t2, .inr (5, [.ref a2, .int 6])), (t3, .inr (5, [.ref a3, .int 3])), (a1, .inl (cI, 240, .inl RA)), (a2, .inl (cI, 30, .inl RI)), (a3, .inl (cI, 36, .inl RC))] := hD
    refine W.eq (g2 := F0 m 27 ls [.int r_4]) rfl ?_
    refine lv_i2f hx hb dX2_weightOf_27 ?_
    refine lv_iload_n hx hb dX2_weightOf_28 rfl (lv_at hl 0 rfl) ?_
    refine lv_i2f hx hb dX2_weightOf_29 ?_
    refine lv_fdiv hx hb dX2_weightOf_30 (fl_div _ (fl_pos c12)) ?_
    exact endF hx hb hr hlk hP hK hD hS dX2_weightOf_31 (FP.fdiv (FP.i2f r_4) (FP.i2f r_2)) rfl ⟨(bd1_e hk2).trans ((if_pos c12).trans ((bd1_e hk4).trans rfl)), rfl⟩
  · refine lv_fconst0 hx hb dX2_weightOf_15 ?_
    exact endF hx hb hr hlk hP hK hD hS dX2_weightOf_16 FP.fconst0 rfl ⟨(bd1_e hk2).trans ((if_neg c12).trans rfl), rfl⟩

theorem wt_mag (RC : Nat → Int32) (area group : Int32) : fm (fX2_weightOf RC area group) 161 := by
  unfold fX2_weightOf
  simp only [bd1]
  split
  · exact fm_div (fl_pos ‹_›)
  · exact fm_0 (by decide)

/-- the loop of X2_addWeights at 5 -/
def fX2_addWeights_5 (RC : Nat → Int32) (start : UInt32) (group : Int32) : Nat → UInt32 → Int32 → UInt32
  | 0, _, _ => default
  | fu + 1, x3, x4 =>
    (if (4 : Int32) ≤ x4 then x3 else bd1 (fX5_ofCell RC x4 group 1) (fun (r_2 : Int32) => bd1 (fX2_weightOf RC x4 group) (fun (r_4 : UInt32) => fX2_addWeights_5 RC start group fu (FP.fadd x3 (FP.fmul r_4 (FP.i2f r_2))) (x4 + 1))))
theorem fX2_addWeights_5_s (RC : Nat → Int32) (start : UInt32) (group : Int32) (fu : Nat) (x3 : UInt32) (x4 : Int32) : fX2_addWeights_5 RC start group (fu + 1) x3 x4 =
    (if (4 : Int32) ≤ x4 then x3 else bd1 (fX5_ofCell RC x4 group 1) (fun (r_2 : Int32) => bd1 (fX2_weightOf RC x4 group) (fun (r_4 : UInt32) => fX2_addWeights_5 RC start group fu (FP.fadd x3 (FP.fmul r_4 (FP.i2f r_2))) (x4 + 1)))) := rfl

/-- the value of X2_addWeights, path by path -/
def fX2_addWeights (RC : Nat → Int32) (start : UInt32) (group : Int32) : UInt32 :=
  fX2_addWeights_5 RC start group (((4 : Int32).toInt - (0 : Int32).toInt).toNat + 1) start 0

set_option maxHeartbeats 4000000 in
set_option maxRecDepth 100000 in
/-- X2_addWeights -/
theorem mX2_addWeights (l : Launch) (D : va_G) (cI cC cS : ClassId) (sz : Nat) (o : Nat) (h : Nat) (t1 : Nat) (t2 : Nat) (t3 : Nat) (a1 : Nat) (a2 : Nat) (a3 : Nat) (RA : Nat → Int32) (RI : Nat → Int32) (RC : Nat → Int32) (na : Int32) (ni : Int32) (dy : Int32) (vl : Int32) (db : Int32) (K : Nat) (start : UInt32) (group : Int32) (hst : fm start K) (hK1 : 195 ≤ K) (hK2 : K ≤ 245) : Met l yX2_addWeights wsX2_addWeights ({ frames := 3, cells := 0, slots := 0, locals := 69 } : Jvm.Room) (va_Pc [.ref o, .float start, .int group] (wPre D (TY cI cC cS) [(o, .inr (1, [.ref h])), (h, .inr (4, [.ref t1, .ref t2, .ref t3, .int na, .int ni, .int dy, .int vl, .int db])), (t1, .inr (5, [.ref a1, .int 10])), (t2, .inr (5, [.ref a2, .int 6])), (t3, .inr (5, [.ref a3, .int 3])), (a1, .inl (cI, 240, .inl RA)), (a2, .inl (cI, 30, .inl RI)), (a3, .inl (cI, 36, .inl RC))] sz wN)) (qF D (TY cI cC cS) (fun (r : UInt32) (u : UInt32) => fX2_addWeights RC start group = u ∧ r = u) (fun u => [(o, .inr (1, [.ref h])), (h, .inr (4, [.ref t1, .ref t2, .ref t3, .int na, .int ni, .int dy, .int vl, .int db])), (t1, .inr (5, [.ref a1, .int 10])), (t2, .inr (5, [.ref a2, .int 6])), (t3, .inr (5, [.ref a3, .int 3])), (a1, .inl (cI, 240, .inl RA)), (a2, .inl (cI, 30, .inl RI)), (a3, .inl (cI, 36, .inl RC))]) (va_A [(o, .inr (1, [.ref h])), (h, .inr (4, [.ref t1, .ref t2, .ref t3, .int na, .int ni, .int dy, .int vl, .int db])), (t1, .inr (5, [.ref a1, .int 10])), (t2, .inr (5, [.ref a2, .int 6])), (t3, .inr (5, [.ref a3, .int 3])), (a1, .inl (cI, 240, .inl RA)), (a2, .inl (cI, 30, .inl RI)), (a3, .inl (cI, 36, .inl RC))] sz)) 0 0 (va_A [(o, .inr (1, [.ref h])), (h, .inr (4, [.ref t1, .ref t2, .ref t3, .int na, .int ni, .int dy, .int vl, .int db])), (t1, .inr (5, [.ref a1, .int 10])), (t2, .inr (5, [.ref a2, .int 6])), (t3, .inr (5, [.ref a3, .int 3])), (a1, .inl (cI, 240, .inl RA)), (a2, .inl (cI, 30, .inl RI)), (a3, .inl (cI, 36, .inl RC))] sz) := by
  refine mkM (y := yX2_addWeights) (wsl := wsX2_addWeights) (fun Fr => qF D (TY cI cC cS) (fun (r : UInt32) (u : UInt32) => fX2_addWeights RC start group = u ∧ r = u) (fun u => [(o, .inr (1, [.ref h])), (h, .inr (4, [.ref t1, .ref t2, .ref t3, .int na, .int ni, .int dy, .int vl, .int db])), (t1, .inr (5, [.ref a1, .int 10])), (t2, .inr (5, [.ref a2, .int 6])), (t3, .inr (5, [.ref a3, .int 3])), (a1, .inl (cI, 240, .inl RA)), (a2, .inl (cI, 30, .inl RI)), (a3, .inl (cI, 36, .inl RC))]) Fr) (cc := cX2_addWeights) (maxL := 6) (ret := (some .float)) (own := RX2) (lv := [(0, .ref o), (1, .float start), (2, .int group)]) (by decide) rfl rfl (Nat.le_of_ble_eq_true rfl) rfl ?_
  intro p e s m below meth c Fr ls hx hb hr hts hown hml hlk hin hP hK hD hS hA hAe hsz hX hl
  have w_1 := hts (.fieldLink RX2 9 "FieldQuotas$Overview" "survey" "LFieldQuotas$Survey;") (List.mem_of_getElem? (i := 1) rfl)
  have w_2 := sub_r (big := wsX2_addWeights) (u_ws RX2 TX2 1) [20] rfl
  refine lv_fload_n hx hb dX2_addWeights_0 rfl (lv_at hl 1 rfl) ?_
  refine lv_fstore_n (lv' := [(3, .float start), (0, .ref o), (1, .float start), (2, .int group)]) hx hb dX2_addWeights_1 rfl hl (by decide) rfl (fun ls hl => ?_)
  refine lv_iconst (v := 0) hx hb dX2_addWeights_2 (by decide) ?_
  refine lv_istore (lv' := [(4, .int 0), (3, .float start), (0, .ref o), (1, .float start), (2, .int group)]) hx hb dX2_addWeights_3 hl (by decide) rfl (fun ls hl => ?_)
  have K_5 : ∀ (fu : Nat) (x3 : UInt32) (x4 : Int32) (H : Heap) (locs : List Loc) (ls : Array Slot), va_P D vwCl [(o, .inr (1, [.ref h])), (h, .inr (4, [.ref t1, .ref t2, .ref t3, .int na, .int ni, .int dy, .int vl, .int db])), (t1, .inr (5, [.ref a1, .int 10])), (t2, .inr (5, [.ref a2, .int 6])), (t3, .inr (5, [.ref a3, .int 3])), (a1, .inl (cI, 240, .inl RA)), (a2, .inl (cI, 30, .inl RI)), (a3, .inl (cI, 36, .inl RC))] H → va_D Fr [(o, .inr (1, [.ref h])), (h, .inr (4, [.ref t1, .ref t2, .ref t3, .int na, .int ni, .int dy, .int vl, .int db])), (t1, .inr (5, [.ref a1, .int 10])), (t2, .inr (5, [.ref a2, .int 6])), (t3, .inr (5, [.ref a3, .int 3])), (a1, .inl (cI, 240, .inl RA)), (a2, .inl (cI, 30, .inl RI)), (a3, .inl (cI, 36, .inl RC))] → va_S Fr s.heap H locs → lv_has ls 6 [(0, .ref o), (1, .float start), (2, .int group), (3, .float x3), (4, .int x4)] → (fm x3 (K + 2 * x4.toNatClampNeg)) → (¬ x4 < 0) → ((4 : Int32).toInt - x4.toInt).toNat < fu → fX2_addWeights RC start group = fX2_addWeights_5 RC start group fu x3 x4 → W p l e (headSpec wsX2_addWeights ({ frames := 3, cells := 0, slots := 0, locals := 69 } : Jvm.Room)).room s m ([.ref o, .float start, .int group] : List Value).toArray below meth c H locs 0 0 (MQ below (qF D (TY cI cC cS) (fun (r : UInt32) (u : UInt32) => fX2_addWeights RC start group = u ∧ r = u) (fun u => [(o, .inr (1, [.ref h])), (h, .inr (4, [.ref t1, .ref t2, .ref t3, .int na, .int ni, .int dy, .int vl, .int db])), (t1, .inr (5, [.ref a1, .int 10])), (t2, .inr (5, [.ref a2, .int 6])), (t3, .inr (5, [.ref a3, .int 3])), (a1, .inl (cI, 240, .inl RA)), (a2, .inl (cI, 30, .inl RI)), (a3, .inl (cI, 36, .inl RC))]) Fr) ([.ref o, .float start, .int group] : List Value).toArray s 0 0 Fr) (F0 m 5 ls []) := by
    intro fu
    induction fu with
    | zero => intros; exact absurd (by assumption) (Nat.not_lt_zero _)
    | succ fu ih_5 =>
      intro x3 x4 H locs ls hP hD hS hl hI hi0 hm_5 E_5
      refine lv_iload hx hb dX2_addWeights_5 (lv_at hl 4 rfl) ?_
      refine lv_iconst (v := 4) hx hb dX2_addWeights_7 (by decide) ?_
      refine lv_icmp_ge (tgt := 44) hx hb dX2_addWeights_8 (by decide) (fun c8 => ?_) (fun c8 => ?_)
      · refine lv_fload_n hx hb dX2_addWeights_44 rfl (lv_at hl 3 rfl) ?_
        exact endF hx hb hr hlk hP hK hD hS dX2_addWeights_45 x3 rfl ⟨(E_5).trans ((fX2_addWeights_5_s RC start group fu x3 x4).trans ((if_pos c8).trans rfl)), rfl⟩
      · refine lv_aload_n hx hb dX2_addWeights_11 rfl (lv_at hl 0 rfl) ?_
        refine va_get (D := D) (ci := 1) (C := RX2) (T := TX2) (N := 1) hx hb hts w_2 hown hK hP 0 rfl rfl 0 (by decide) w_1 (fun _ h9 => h9) rfl dX2_addWeights_12 ?_
        refine lv_iload hx hb dX2_addWeights_15 (lv_at hl 4 rfl) ?_
        refine lv_iload_n hx hb dX2_addWeights_17 rfl (lv_at hl 2 rfl) ?_
        refine lv_iconst (v := 1) hx hb dX2_addWeights_18 (by decide) ?_
        refine callVi (As := [.int x4, .int group, .int 1]) (rest := []) (mX5_ofCell l D cI cC cS _ h t1 t2 t3 a1 a2 a3 RA RI RC na ni dy vl db x4 group 1) ⟨hx, hb, hml, hown, hts⟩ (cwV 3 hts gX2_addWeights_X5_ofCell rfl rfl rfl (by decide +kernel) ⟨Nat.le_of_ble_eq_true rfl, Nat.le_of_ble_eq_true rfl⟩) wN_blind (fun _ _ hW => wN_warm hW hX) hP hK hD hS hA hl [1, 2, 3, 4, 5, 6, 7] rfl rfl 0 4 rfl rfl rfl rfl rfl (Nat.le_of_ble_eq_true rfl) dX2_addWeights_19 ⟨Nat.zero_le _, Nat.zero_le _⟩ (fun _ => rfl) (fun u_ H locs hk2 hP hD hS => ?_)
        obtain ⟨r_2, e_r_2⟩ : ∃ z, z = u_ := ⟨_, rfl⟩
        subst e_r_2
        have hP : va_P D vwCl [(o, .inr (1, [.ref h])), (h, .inr (4, [.ref t1, .ref t2, .ref t3, .int na, .int ni, .int dy, .int vl, .int db])), (t1, .inr (5, [.ref a1, .int 10])), (t2, .inr (5, [.ref a2, .int 6])), (t3, .inr (5, [.ref a3, .int 3])), (a1, .inl (cI, 240, .inl RA)), (a2, .inl (cI, 30, .inl RI)), (a3, .inl (cI, 36, .inl RC))] H := hP
        have hD : va_D Fr [(o, .inr (1, [.ref h])), (h, .inr (4, [.ref t1, .ref t2, .ref t3, .int na, .int ni, .int dy, .int vl, .int db])), (t1, .inr (5, [.ref a1, .int 10])), (t2, .inr (5, [.ref a2, .int 6])), (t3, .inr (5, [.ref a3, .int 3])), (a1, .inl (cI, 240, .inl RA)), (a2, .inl (cI, 30, .inl RI)), (a3, .inl (cI, 36, .inl RC))] := hD
        refine W.eq (g2 := F0 m 22 ls [.int r_2]) rfl ?_
        refine lv_i2f hx hb dX2_addWeights_22 ?_
        refine lv_fstore (lv' := [(5, .float (FP.i2f r_2)), (0, .ref o), (1, .float start), (2, .int group), (3, .float x3), (4, .int x4)]) hx hb dX2_addWeights_23 hl (by decide) rfl (fun ls hl => ?_)
        refine lv_fload_n hx hb dX2_addWeights_25 rfl (lv_at hl 4 rfl) ?_
        refine lv_aload_n hx hb dX2_addWeights_26 rfl (lv_at hl 1 rfl) ?_
        refine lv_iload hx hb dX2_addWeights_27 (lv_at hl 5 rfl) ?_
        refine lv_iload_n hx hb dX2_addWeights_29 rfl (lv_at hl 3 rfl) ?_
        refine callVf (As := [.int x4, .int group]) (rest := [.float x3]) (mX2_weightOf l D cI cC cS _ o h t1 t2 t3 a1 a2 a3 RA RI RC na ni dy vl db x4 group) ⟨hx, hb, hml, hown, hts⟩ (cwV 2 hts gX2_addWeights_X2_weightOf rfl rfl rfl (by decide +kernel) ⟨Nat.le_of_ble_eq_true rfl, Nat.le_of_ble_eq_true rfl⟩) wN_blind (fun _ _ hW => wN_warm hW hX) hP hK hD hS hA hl [0, 1, 2, 3, 4, 5, 6, 7] rfl rfl 0 1 rfl rfl rfl rfl rfl (Nat.le_of_ble_eq_true rfl) dX2_addWeights_30 ⟨Nat.zero_le _, Nat.zero_le _⟩ (fun _ => rfl) (fun u_ H locs hk4 hP hD hS => ?_)
        obtain ⟨r_4, e_r_4⟩ : ∃ z, z = u_ := ⟨_, rfl⟩
        subst e_r_4
        have hP : va_P D vwCl [(o, .inr (1, [.ref h])), (h, .inr (4, [.ref t1, .ref t2, .ref t3, .int na, .int ni, .int dy, .int vl, .int db])), (t1, .inr (5, [.ref a1, .int 10])), (t2, .inr (5, [.ref a2, .int 6])), (t3, .inr (5, [.ref a3, .int 3])), (a1, .inl (cI, 240, .inl RA)), (a2, .inl (cI, 30, .inl RI)), (a3, .inl (cI, 36, .inl RC))] H := hP
        have hD : va_D Fr [(o, .inr (1, [.ref h])), (h, .inr (4, [.ref t1, .ref t2, .ref t3, .int na, .int ni, .int dy, .int vl, .int db])), (t1, .inr (5, [.ref a1, .int 10])), (t2, .inr (5, [.ref a2, .int 6])), (t3, .inr (5, [.ref a3, .int 3])), (a1, .inl (cI, 240, .inl RA)), (a2, .inl (cI, 30, .inl RI)), (a3, .inl (cI, 36, .inl RC))] := hD
        refine W.eq (g2 := F0 m 33 ls [.float r_4, .float x3]) rfl ?_
        refine lv_fload hx hb dX2_addWeights_33 (lv_at hl 0 rfl) ?_
        refine lv_fmul hx hb dX2_addWeights_35 (fl_n32 (fm_nn (fm_mul (hk4 ▸ wt_mag RC x4 group) (fm_i _)) (by decide))) ?_
        refine lv_fadd hx hb dX2_addWeights_36 (fl_n32 (fm_nn (fm_up hI (fm_mul (hk4 ▸ wt_mag RC x4 group) (fm_i _)) hK1 (by have := cl_lt hi0 c8; have e4 : (4 : Int32).toNatClampNeg = 4 := (by decide); omega) (cl_up hi0 c8)) (by have := cl_lt hi0 c8; have e4 : (4 : Int32).toNatClampNeg = 4 := (by decide); rw [cl_up hi0 c8]; omega))) ?_
        refine lv_fstore_n (lv' := [(3, .float (FP.fadd x3 (FP.fmul r_4 (FP.i2f r_2)))), (5, .float (FP.i2f r_2)), (0, .ref o), (1, .float start), (2, .int group), (4, .int x4)]) hx hb dX2_addWeights_37 rfl hl (by decide) rfl (fun ls hl => ?_)
        refine lv_iinc (v := x4 + 1) (lv' := [(4, .int (x4 + 1)), (3, .float (FP.fadd x3 (FP.fmul r_4 (FP.i2f r_2)))), (5, .float (FP.i2f r_2)), (0, .ref o), (1, .float start), (2, .int group)]) hx hb dX2_addWeights_38 hl (k := 5) rfl (by rfl) (by decide) rfl (fun ls hl => ?_)
        refine lv_goto (tgt := 5) hx hb dX2_addWeights_41 (by decide) ?_
        exact ih_5 (FP.fadd x3 (FP.fmul r_4 (FP.i2f r_2))) (x4 + 1) _ _ ls hP hD hS (lv_sub hl [3, 4, 5, 1, 0] rfl) (fm_up hI (fm_mul (hk4 ▸ wt_mag RC x4 group) (fm_i _)) hK1 (by have := cl_lt hi0 c8; have e4 : (4 : Int32).toNatClampNeg = 4 := (by decide); omega) (cl_up hi0 c8)) (up_k hi0 c8) (Nat.lt_of_lt_of_le (lp_dec c8) (Nat.le_of_lt_succ hm_5)) ((E_5).trans ((fX2_addWeights_5_s RC start group fu x3 x4).trans ((if_neg c8).trans ((bd1_e hk2).trans ((bd1_e hk4).trans rfl)))))
  exact K_5 (((4 : Int32).toInt - (0 : Int32).toInt).toNat + 1) start 0 _ _ ls hP hD hS (lv_sub hl [2, 3, 4, 1, 0] rfl) (fm_le hst (Nat.le_add_right _ _)) (by decide) (Nat.lt_succ_self _) rfl

/-- what addWeights tells: four areas' weights, one behind another -/
def awT (RC : Nat → Int32) (group : Int32) (i : Int32) : UInt32 := FP.fmul (fX2_weightOf RC i group) (FP.i2f (fX5_ofCell RC i group 1))
theorem aw_eq (RC : Nat → Int32) (start : UInt32) (group : Int32) : fX2_addWeights RC start group = FP.fadd (FP.fadd (FP.fadd (FP.fadd start (awT RC group 0)) (awT RC group 1)) (awT RC group 2)) (awT RC group 3) := rfl
theorem aw_mag (RC : Nat → Int32) (start : UInt32) (group : Int32) {K : Nat} (hs : fm start K) (h1 : 195 ≤ K) (h2 : K ≤ 245) : fm (fX2_addWeights RC start group) (K + 8) := by
  have ht : ∀ i : Int32, fm (awT RC group i) 195 := fun i => fm_mul (wt_mag RC i group) (fm_i _)
  rw [aw_eq]
  have a0 : fm start (K + 2 * 0) := hs
  have a1 := fm_up a0 (ht 0) h1 (by omega) (n' := 1) rfl
  have a2 := fm_up a1 (ht 1) h1 (by omega) (n' := 2) rfl
  have a3 := fm_up a2 (ht 2) h1 (by omega) (n' := 3) rfl
  exact fm_up a3 (ht 3) h1 (by omega) (n' := 4) rfl

/-- the loop of X2_bitsOf at 43 -/
def fX2_bitsOf_43 (number : UInt32) : Nat → UInt32 → Int32 → Int32 → Int32
  | 0, _, _, _ => default
  | fu + 1, x1, x2, x3 =>
    (if (128 : Int32) ≤ x3 then (x2 <<< (23 &&& 31)) + ((FP.f2i (FP.fmul x1 (1258291200 : UInt32))) - 8388608) else (if (0 : Int32) ≤ Op.cmpValue (FP.fcmp x1 FP.fconst1) .g then (x2 <<< (23 &&& 31)) + ((FP.f2i (FP.fmul x1 (1258291200 : UInt32))) - 8388608) else fX2_bitsOf_43 number fu (FP.fmul x1 FP.fconst2) (x2 + (-1)) (x3 + 1)))
theorem fX2_bitsOf_43_s (number : UInt32) (fu : Nat) (x1 : UInt32) (x2 : Int32) (x3 : Int32) : fX2_bitsOf_43 number (fu + 1) x1 x2 x3 =
    (if (128 : Int32) ≤ x3 then (x2 <<< (23 &&& 31)) + ((FP.f2i (FP.fmul x1 (1258291200 : UInt32))) - 8388608) else (if (0 : Int32) ≤ Op.cmpValue (FP.fcmp x1 FP.fconst1) .g then (x2 <<< (23 &&& 31)) + ((FP.f2i (FP.fmul x1 (1258291200 : UInt32))) - 8388608) else fX2_bitsOf_43 number fu (FP.fmul x1 FP.fconst2) (x2 + (-1)) (x3 + 1))) := rfl

/-- the loop of X2_bitsOf at 15 -/
def fX2_bitsOf_15 (number : UInt32) : Nat → UInt32 → Int32 → Int32 → Int32
  | 0, _, _, _ => default
  | fu + 1, x1, x2, x3 =>
    (if (128 : Int32) ≤ x3 then fX2_bitsOf_43 number (((128 : Int32).toInt - (0 : Int32).toInt).toNat + 1) x1 x2 0 else (if Op.cmpValue (FP.fcmp x1 FP.fconst2) .l < 0 then fX2_bitsOf_43 number (((128 : Int32).toInt - (0 : Int32).toInt).toNat + 1) x1 x2 0 else fX2_bitsOf_15 number fu (FP.fdiv x1 FP.fconst2) (x2 + 1) (x3 + 1)))
theorem fX2_bitsOf_15_s (number : UInt32) (fu : Nat) (x1 : UInt32) (x2 : Int32) (x3 : Int32) : fX2_bitsOf_15 number (fu + 1) x1 x2 x3 =
    (if (128 : Int32) ≤ x3 then fX2_bitsOf_43 number (((128 : Int32).toInt - (0 : Int32).toInt).toNat + 1) x1 x2 0 else (if Op.cmpValue (FP.fcmp x1 FP.fconst2) .l < 0 then fX2_bitsOf_43 number (((128 : Int32).toInt - (0 : Int32).toInt).toNat + 1) x1 x2 0 else fX2_bitsOf_15 number fu (FP.fdiv x1 FP.fconst2) (x2 + 1) (x3 + 1))) := rfl

/-- the value of X2_bitsOf, path by path -/
def fX2_bitsOf (number : UInt32) : Int32 :=
  (if (0 : Int32) < Op.cmpValue (FP.fcmp number FP.fconst0) .l then fX2_bitsOf_15 number (((128 : Int32).toInt - (0 : Int32).toInt).toNat + 1) number 127 0 else 0)

set_option maxHeartbeats 4000000 in
set_option maxRecDepth 100000 in
/-- X2_bitsOf -/
theorem mX2_bitsOf (l : Launch) (D : va_G) (cI cC cS : ClassId) (sz : Nat) (number : UInt32) (hn : FP.Core.fIsNaN number = false) : Met l yX2_bitsOf wsX2_bitsOf ({ frames := 0, cells := 0, slots := 0, locals := 0 } : Jvm.Room) (va_Pc [.float number] (wPre D (TY cI cC cS) [] sz X0)) (qI D (TY cI cC cS) (fun (r : Int32) (u : Int32) => fX2_bitsOf number = u ∧ r = u) (fun u => []) (va_A [] sz)) 0 0 (va_A [] sz) := by
  refine mkM (y := yX2_bitsOf) (wsl := wsX2_bitsOf) (fun Fr => qI D (TY cI cC cS) (fun (r : Int32) (u : Int32) => fX2_bitsOf number = u ∧ r = u) (fun u => []) Fr) (cc := cX2_bitsOf) (maxL := 4) (ret := (some .int)) (own := RX2) (lv := [(0, .float number)]) (by decide) rfl rfl (Nat.le_of_ble_eq_true rfl) rfl ?_
  intro p e s m below meth c Fr ls hx hb hr hts hown hml hlk hin hP hK hD hS hA hAe hsz hX hl
  have w_1 := hts (.constantFloat RX2 112 (1258291200)) (List.mem_of_getElem? (i := 1) rfl)
  have w_2 := hts (.constant RX2 113 (8388608)) (List.mem_of_getElem? (i := 2) rfl)
  refine lv_fload_n hx hb dX2_bitsOf_0 rfl (lv_at hl 0 rfl) ?_
  refine lv_fconst0 hx hb dX2_bitsOf_1 ?_
  refine lv_fcmp hx hb dX2_bitsOf_2 ?_
  refine lv_if_gt (tgt := 8) hx hb dX2_bitsOf_3 (by decide) (fun c3 => ?_) (fun c3 => ?_)
  · refine lv_fload_n hx hb dX2_bitsOf_8 rfl (lv_at hl 0 rfl) ?_
    refine lv_fstore_n (lv' := [(1, .float number), (0, .float number)]) hx hb dX2_bitsOf_9 rfl hl (by decide) rfl (fun ls hl => ?_)
    refine lv_bipush (v := 127) hx hb dX2_bitsOf_10 (by decide) ?_
    refine lv_istore_n (lv' := [(2, .int 127), (1, .float number), (0, .float number)]) hx hb dX2_bitsOf_12 rfl hl (by decide) rfl (fun ls hl => ?_)
    refine lv_iconst (v := 0) hx hb dX2_bitsOf_13 (by decide) ?_
    refine lv_istore_n (lv' := [(3, .int 0), (2, .int 127), (1, .float number), (0, .float number)]) hx hb dX2_bitsOf_14 rfl hl (by decide) rfl (fun ls hl => ?_)
    have K_15 : ∀ (fu : Nat) (x1 : UInt32) (x2 : Int32) (x3 : Int32) (H : Heap) (locs : List Loc) (ls : Array Slot), va_P D vwCl [] H → va_D Fr [] → va_S Fr s.heap H locs → lv_has ls 4 [(0, .float number), (1, .float x1), (2, .int x2), (3, .int x3)] → (FP.Core.fIsNaN x1 = false) → ((128 : Int32).toInt - x3.toInt).toNat < fu → fX2_bitsOf number = fX2_bitsOf_15 number fu x1 x2 x3 → W p l e (headSpec wsX2_bitsOf ({ frames := 0, cells := 0, slots := 0, locals := 0 } : Jvm.Room)).room s m ([.float number] : List Value).toArray below meth c H locs 0 0 (MQ below (qI D (TY cI cC cS) (fun (r : Int32) (u : Int32) => fX2_bitsOf number = u ∧ r = u) (fun u => []) Fr) ([.float number] : List Value).toArray s 0 0 Fr) (F0 m 15 ls []) := by
      intro fu
      induction fu with
      | zero => intros; exact absurd (by assumption) (Nat.not_lt_zero _)
      | succ fu ih_15 =>
        intro x1 x2 x3 H locs ls hP hD hS hl hN hm_15 E_15
        refine lv_iload_n hx hb dX2_bitsOf_15 rfl (lv_at hl 3 rfl) ?_
        refine lv_sipush (v := 128) hx hb dX2_bitsOf_16 (by decide) ?_
        refine lv_icmp_ge (tgt := 41) hx hb dX2_bitsOf_19 (by decide) (fun c19 => ?_) (fun c19 => ?_)
        · refine lv_iconst (v := 0) hx hb dX2_bitsOf_41 (by decide) ?_
          refine lv_istore_n (lv' := [(3, .int 0), (0, .float number), (1, .float x1), (2, .int x2)]) hx hb dX2_bitsOf_42 rfl hl (by decide) rfl (fun ls hl => ?_)
          have K_43 : ∀ (fu : Nat) (x1 : UInt32) (x2 : Int32) (x3 : Int32) (H : Heap) (locs : List Loc) (ls : Array Slot), va_P D vwCl [] H → va_D Fr [] → va_S Fr s.heap H locs → lv_has ls 4 [(0, .float number), (1, .float x1), (2, .int x2), (3, .int x3)] → (FP.Core.fIsNaN x1 = false) → ((128 : Int32).toInt - x3.toInt).toNat < fu → fX2_bitsOf number = fX2_bitsOf_43 number fu x1 x2 x3 → W p l e (headSpec wsX2_bitsOf ({ frames := 0, cells := 0, slots := 0, locals := 0 } : Jvm.Room)).room s m ([.float number] : List Value).toArray below meth c H locs 0 0 (MQ below (qI D (TY cI cC cS) (fun (r : Int32) (u : Int32) => fX2_bitsOf number = u ∧ r = u) (fun u => []) Fr) ([.float number] : List Value).toArray s 0 0 Fr) (F0 m 43 ls []) := by
            intro fu
            induction fu with
            | zero => intros; exact absurd (by assumption) (Nat.not_lt_zero _)
            | succ fu ih_43 =>
              intro x1 x2 x3 H locs ls hP hD hS hl hN hm_43 E_43
              refine lv_iload_n hx hb dX2_bitsOf_43 rfl (lv_at hl 3 rfl) ?_
              refine lv_sipush (v := 128) hx hb dX2_bitsOf_44 (by decide) ?_
              refine lv_icmp_ge (tgt := 69) hx hb dX2_bitsOf_47 (by decide) (fun c47 => ?_) (fun c47 => ?_)
              · refine lv_iload_n hx hb dX2_bitsOf_69 rfl (lv_at hl 2 rfl) ?_
                refine lv_bipush (v := 23) hx hb dX2_bitsOf_70 (by decide) ?_
                refine lv_ishl hx hb dX2_bitsOf_72 ?_
                refine lv_fload_n hx hb dX2_bitsOf_73 rfl (lv_at hl 1 rfl) ?_
                refine lv_ldcf hx hb hown w_1 dX2_bitsOf_74 ?_
                refine lv_fmul hx hb dX2_bitsOf_76 (fl_n32 (fl_8m hN)) ?_
                refine lv_f2i hx hb dX2_bitsOf_77 ?_
                refine lv_ldc hx hb hown w_2 dX2_bitsOf_78 ?_
                refine lv_isub hx hb dX2_bitsOf_80 ?_
                refine lv_iadd hx hb dX2_bitsOf_81 ?_
                exact endI hx hb hr hlk hP hK hD hS dX2_bitsOf_82 ((x2 <<< (23 &&& 31)) + ((FP.f2i (FP.fmul x1 (1258291200 : UInt32))) - 8388608)) rfl ⟨(E_43).trans ((fX2_bitsOf_43_s number fu x1 x2 x3).trans ((if_pos c47).trans rfl)), rfl⟩
              · refine lv_fload_n hx hb dX2_bitsOf_50 rfl (lv_at hl 1 rfl) ?_
                refine lv_fconst1 hx hb dX2_bitsOf_51 ?_
                refine lv_fcmp hx hb dX2_bitsOf_52 ?_
                refine lv_if_ge (tgt := 69) hx hb dX2_bitsOf_53 (by decide) (fun c53 => ?_) (fun c53 => ?_)
                · refine lv_iload_n hx hb dX2_bitsOf_69 rfl (lv_at hl 2 rfl) ?_
                  refine lv_bipush (v := 23) hx hb dX2_bitsOf_70 (by decide) ?_
                  refine lv_ishl hx hb dX2_bitsOf_72 ?_
                  refine lv_fload_n hx hb dX2_bitsOf_73 rfl (lv_at hl 1 rfl) ?_
                  refine lv_ldcf hx hb hown w_1 dX2_bitsOf_74 ?_
                  refine lv_fmul hx hb dX2_bitsOf_76 (fl_n32 (fl_8m hN)) ?_
                  refine lv_f2i hx hb dX2_bitsOf_77 ?_
                  refine lv_ldc hx hb hown w_2 dX2_bitsOf_78 ?_
                  refine lv_isub hx hb dX2_bitsOf_80 ?_
                  refine lv_iadd hx hb dX2_bitsOf_81 ?_
                  exact endI hx hb hr hlk hP hK hD hS dX2_bitsOf_82 ((x2 <<< (23 &&& 31)) + ((FP.f2i (FP.fmul x1 (1258291200 : UInt32))) - 8388608)) rfl ⟨(E_43).trans ((fX2_bitsOf_43_s number fu x1 x2 x3).trans ((if_neg c47).trans ((if_pos c53).trans rfl))), rfl⟩
                · refine lv_fload_n hx hb dX2_bitsOf_56 rfl (lv_at hl 1 rfl) ?_
                  refine lv_fconst2 hx hb dX2_bitsOf_57 ?_
                  refine lv_fmul hx hb dX2_bitsOf_58 (fl_n32 (fl_twice hN)) ?_
                  refine lv_fstore_n (lv' := [(1, .float (FP.fmul x1 FP.fconst2)), (0, .float number), (2, .int x2), (3, .int x3)]) hx hb dX2_bitsOf_59 rfl hl (by decide) rfl (fun ls hl => ?_)
                  refine lv_iinc (v := x2 + (-1)) (lv' := [(2, .int (x2 + (-1))), (1, .float (FP.fmul x1 FP.fconst2)), (0, .float number), (3, .int x3)]) hx hb dX2_bitsOf_60 hl (k := 2) rfl (by rfl) (by decide) rfl (fun ls hl => ?_)
                  refine lv_iinc (v := x3 + 1) (lv' := [(3, .int (x3 + 1)), (2, .int (x2 + (-1))), (1, .float (FP.fmul x1 FP.fconst2)), (0, .float number)]) hx hb dX2_bitsOf_63 hl (k := 3) rfl (by rfl) (by decide) rfl (fun ls hl => ?_)
                  refine lv_goto (tgt := 43) hx hb dX2_bitsOf_66 (by decide) ?_
                  exact ih_43 (FP.fmul x1 FP.fconst2) (x2 + (-1)) (x3 + 1) _ _ ls hP hD hS (lv_sub hl [3, 2, 1, 0] rfl) (fl_twice hN) (Nat.lt_of_lt_of_le (lp_dec c47) (Nat.le_of_lt_succ hm_43)) ((E_43).trans ((fX2_bitsOf_43_s number fu x1 x2 x3).trans ((if_neg c47).trans ((if_neg c53).trans rfl))))
          exact K_43 (((128 : Int32).toInt - (0 : Int32).toInt).toNat + 1) x1 x2 0 _ _ ls hP hD hS (lv_sub hl [1, 2, 3, 0] rfl) hN (Nat.lt_succ_self _) ((E_15).trans ((fX2_bitsOf_15_s number fu x1 x2 x3).trans ((if_pos c19).trans rfl)))
        · refine lv_fload_n hx hb dX2_bitsOf_22 rfl (lv_at hl 1 rfl) ?_
          refine lv_fconst2 hx hb dX2_bitsOf_23 ?_
          refine lv_fcmp hx hb dX2_bitsOf_24 ?_
          refine lv_if_lt (tgt := 41) hx hb dX2_bitsOf_25 (by decide) (fun c25 => ?_) (fun c25 => ?_)
          · refine lv_iconst (v := 0) hx hb dX2_bitsOf_41 (by decide) ?_
            refine lv_istore_n (lv' := [(3, .int 0), (0, .float number), (1, .float x1), (2, .int x2)]) hx hb dX2_bitsOf_42 rfl hl (by decide) rfl (fun ls hl => ?_)
            have K_43 : ∀ (fu : Nat) (x1 : UInt32) (x2 : Int32) (x3 : Int32) (H : Heap) (locs : List Loc) (ls : Array Slot), va_P D vwCl [] H → va_D Fr [] → va_S Fr s.heap H locs → lv_has ls 4 [(0, .float number), (1, .float x1), (2, .int x2), (3, .int x3)] → (FP.Core.fIsNaN x1 = false) → ((128 : Int32).toInt - x3.toInt).toNat < fu → fX2_bitsOf number = fX2_bitsOf_43 number fu x1 x2 x3 → W p l e (headSpec wsX2_bitsOf ({ frames := 0, cells := 0, slots := 0, locals := 0 } : Jvm.Room)).room s m ([.float number] : List Value).toArray below meth c H locs 0 0 (MQ below (qI D (TY cI cC cS) (fun (r : Int32) (u : Int32) => fX2_bitsOf number = u ∧ r = u) (fun u => []) Fr) ([.float number] : List Value).toArray s 0 0 Fr) (F0 m 43 ls []) := by
              intro fu
              induction fu with
              | zero => intros; exact absurd (by assumption) (Nat.not_lt_zero _)
              | succ fu ih_43 =>
                intro x1 x2 x3 H locs ls hP hD hS hl hN hm_43 E_43
                refine lv_iload_n hx hb dX2_bitsOf_43 rfl (lv_at hl 3 rfl) ?_
                refine lv_sipush (v := 128) hx hb dX2_bitsOf_44 (by decide) ?_
                refine lv_icmp_ge (tgt := 69) hx hb dX2_bitsOf_47 (by decide) (fun c47 => ?_) (fun c47 => ?_)
                · refine lv_iload_n hx hb dX2_bitsOf_69 rfl (lv_at hl 2 rfl) ?_
                  refine lv_bipush (v := 23) hx hb dX2_bitsOf_70 (by decide) ?_
                  refine lv_ishl hx hb dX2_bitsOf_72 ?_
                  refine lv_fload_n hx hb dX2_bitsOf_73 rfl (lv_at hl 1 rfl) ?_
                  refine lv_ldcf hx hb hown w_1 dX2_bitsOf_74 ?_
                  refine lv_fmul hx hb dX2_bitsOf_76 (fl_n32 (fl_8m hN)) ?_
                  refine lv_f2i hx hb dX2_bitsOf_77 ?_
                  refine lv_ldc hx hb hown w_2 dX2_bitsOf_78 ?_
                  refine lv_isub hx hb dX2_bitsOf_80 ?_
                  refine lv_iadd hx hb dX2_bitsOf_81 ?_
                  exact endI hx hb hr hlk hP hK hD hS dX2_bitsOf_82 ((x2 <<< (23 &&& 31)) + ((FP.f2i (FP.fmul x1 (1258291200 : UInt32))) - 8388608)) rfl ⟨(E_43).trans ((fX2_bitsOf_43_s number fu x1 x2 x3).trans ((if_pos c47).trans rfl)), rfl⟩
                · refine lv_fload_n hx hb dX2_bitsOf_50 rfl (lv_at hl 1 rfl) ?_
                  refine lv_fconst1 hx hb dX2_bitsOf_51 ?_
                  refine lv_fcmp hx hb dX2_bitsOf_52 ?_
                  refine lv_if_ge (tgt := 69) hx hb dX2_bitsOf_53 (by decide) (fun c53 => ?_) (fun c53 => ?_)
                  · refine lv_iload_n hx hb dX2_bitsOf_69 rfl (lv_at hl 2 rfl) ?_
                    refine lv_bipush (v := 23) hx hb dX2_bitsOf_70 (by decide) ?_
                    refine lv_ishl hx hb dX2_bitsOf_72 ?_
                    refine lv_fload_n hx hb dX2_bitsOf_73 rfl (lv_at hl 1 rfl) ?_
                    refine lv_ldcf hx hb hown w_1 dX2_bitsOf_74 ?_
                    refine lv_fmul hx hb dX2_bitsOf_76 (fl_n32 (fl_8m hN)) ?_
                    refine lv_f2i hx hb dX2_bitsOf_77 ?_
                    refine lv_ldc hx hb hown w_2 dX2_bitsOf_78 ?_
                    refine lv_isub hx hb dX2_bitsOf_80 ?_
                    refine lv_iadd hx hb dX2_bitsOf_81 ?_
                    exact endI hx hb hr hlk hP hK hD hS dX2_bitsOf_82 ((x2 <<< (23 &&& 31)) + ((FP.f2i (FP.fmul x1 (1258291200 : UInt32))) - 8388608)) rfl ⟨(E_43).trans ((fX2_bitsOf_43_s number fu x1 x2 x3).trans ((if_neg c47).trans ((if_pos c53).trans rfl))), rfl⟩
                  · refine lv_fload_n hx hb dX2_bitsOf_56 rfl (lv_at hl 1 rfl) ?_
                    refine lv_fconst2 hx hb dX2_bitsOf_57 ?_
                    refine lv_fmul hx hb dX2_bitsOf_58 (fl_n32 (fl_twice hN)) ?_
                    refine lv_fstore_n (lv' := [(1, .float (FP.fmul x1 FP.fconst2)), (0, .float number), (2, .int x2), (3, .int x3)]) hx hb dX2_bitsOf_59 rfl hl (by decide) rfl (fun ls hl => ?_)
                    refine lv_iinc (v := x2 + (-1)) (lv' := [(2, .int (x2 + (-1))), (1, .float (FP.fmul x1 FP.fconst2)), (0, .float number), (3, .int x3)]) hx hb dX2_bitsOf_60 hl (k := 2) rfl (by rfl) (by decide) rfl (fun ls hl => ?_)
                    refine lv_iinc (v := x3 + 1) (lv' := [(3, .int (x3 + 1)), (2, .int (x2 + (-1))), (1, .float (FP.fmul x1 FP.fconst2)), (0, .float number)]) hx hb dX2_bitsOf_63 hl (k := 3) rfl (by rfl) (by decide) rfl (fun ls hl => ?_)
                    refine lv_goto (tgt := 43) hx hb dX2_bitsOf_66 (by decide) ?_
                    exact ih_43 (FP.fmul x1 FP.fconst2) (x2 + (-1)) (x3 + 1) _ _ ls hP hD hS (lv_sub hl [3, 2, 1, 0] rfl) (fl_twice hN) (Nat.lt_of_lt_of_le (lp_dec c47) (Nat.le_of_lt_succ hm_43)) ((E_43).trans ((fX2_bitsOf_43_s number fu x1 x2 x3).trans ((if_neg c47).trans ((if_neg c53).trans rfl))))
            exact K_43 (((128 : Int32).toInt - (0 : Int32).toInt).toNat + 1) x1 x2 0 _ _ ls hP hD hS (lv_sub hl [1, 2, 3, 0] rfl) hN (Nat.lt_succ_self _) ((E_15).trans ((fX2_bitsOf_15_s number fu x1 x2 x3).trans ((if_neg c19).trans ((if_pos c25).trans rfl))))
          · refine lv_fload_n hx hb dX2_bitsOf_28 rfl (lv_at hl 1 rfl) ?_
            refine lv_fconst2 hx hb dX2_bitsOf_29 ?_
            refine lv_fdiv hx hb dX2_bitsOf_30 (fl_n32 (fl_half hN)) ?_
            refine lv_fstore_n (lv' := [(1, .float (FP.fdiv x1 FP.fconst2)), (0, .float number), (2, .int x2), (3, .int x3)]) hx hb dX2_bitsOf_31 rfl hl (by decide) rfl (fun ls hl => ?_)
            refine lv_iinc (v := x2 + 1) (lv' := [(2, .int (x2 + 1)), (1, .float (FP.fdiv x1 FP.fconst2)), (0, .float number), (3, .int x3)]) hx hb dX2_bitsOf_32 hl (k := 2) rfl (by rfl) (by decide) rfl (fun ls hl => ?_)
            refine lv_iinc (v := x3 + 1) (lv' := [(3, .int (x3 + 1)), (2, .int (x2 + 1)), (1, .float (FP.fdiv x1 FP.fconst2)), (0, .float number)]) hx hb dX2_bitsOf_35 hl (k := 3) rfl (by rfl) (by decide) rfl (fun ls hl => ?_)
            refine lv_goto (tgt := 15) hx hb dX2_bitsOf_38 (by decide) ?_
            exact ih_15 (FP.fdiv x1 FP.fconst2) (x2 + 1) (x3 + 1) _ _ ls hP hD hS (lv_sub hl [3, 2, 1, 0] rfl) (fl_half hN) (Nat.lt_of_lt_of_le (lp_dec c19) (Nat.le_of_lt_succ hm_15)) ((E_15).trans ((fX2_bitsOf_15_s number fu x1 x2 x3).trans ((if_neg c19).trans ((if_neg c25).trans rfl))))
    exact K_15 (((128 : Int32).toInt - (0 : Int32).toInt).toNat + 1) number 127 0 _ _ ls hP hD hS (lv_sub hl [3, 2, 1, 0] rfl) hn (Nat.lt_succ_self _) ((if_pos c3).trans rfl)
  · refine lv_iconst (v := 0) hx hb dX2_bitsOf_6 (by decide) ?_
    exact endI hx hb hr hlk hP hK hD hS dX2_bitsOf_7 0 rfl ⟨(if_neg c3).trans rfl, rfl⟩

/-- the value of X2_rateOfInterviews, path by path -/
def fX2_rateOfInterviews (RA : Nat → Int32) (na : Int32) : Int32 :=
  bd1 (fX2_addressesWith RA na 0) (fun (r_4 : Int32) => bd1 (na - r_4) (fun (y_5 : Int32) => (if (0 : Int32) < y_5 then bd1 (fX2_addressesWith RA na 1) (fun (r_7 : Int32) => bd1 (fX2_bitsOf (FP.fdiv (FP.i2f r_7) (FP.i2f y_5))) (fun (r_9 : Int32) => r_9)) else (-4))))

set_option maxHeartbeats 4000000 in
set_option maxRecDepth 100000 in
/-- X2_rateOfInterviews -/
theorem mX2_rateOfInterviews (l : Launch) (D : va_G) (cI cC cS : ClassId) (sz : Nat) (o : Nat) (h : Nat) (t1 : Nat) (t2 : Nat) (t3 : Nat) (a1 : Nat) (a2 : Nat) (a3 : Nat) (RA : Nat → Int32) (RI : Nat → Int32) (RC : Nat → Int32) (na : Int32) (ni : Int32) (dy : Int32) (vl : Int32) (db : Int32)  : Met l yX2_rateOfInterviews wsX2_rateOfInterviews ({ frames := 3, cells := 0, slots := 0, locals := 68 } : Jvm.Room) (va_Pc [.ref o] (wPre D (TY cI cC cS) [(o, .inr (1, [.ref h])), (h, .inr (4, [.ref t1, .ref t2, .ref t3, .int na, .int ni, .int dy, .int vl, .int db])), (t1, .inr (5, [.ref a1, .int 10])), (t2, .inr (5, [.ref a2, .int 6])), (t3, .inr (5, [.ref a3, .int 3])), (a1, .inl (cI, 240, .inl RA)), (a2, .inl (cI, 30, .inl RI)), (a3, .inl (cI, 36, .inl RC))] sz wN)) (qI D (TY cI cC cS) (fun (r : Int32) (u : Int32) => fX2_rateOfInterviews RA na = u ∧ r = u) (fun u => [(o, .inr (1, [.ref h])), (h, .inr (4, [.ref t1, .ref t2, .ref t3, .int na, .int ni, .int dy, .int vl, .int db])), (t1, .inr (5, [.ref a1, .int 10])), (t2, .inr (5, [.ref a2, .int 6])), (t3, .inr (5, [.ref a3, .int 3])), (a1, .inl (cI, 240, .inl RA)), (a2, .inl (cI, 30, .inl RI)), (a3, .inl (cI, 36, .inl RC))]) (va_A [(o, .inr (1, [.ref h])), (h, .inr (4, [.ref t1, .ref t2, .ref t3, .int na, .int ni, .int dy, .int vl, .int db])), (t1, .inr (5, [.ref a1, .int 10])), (t2, .inr (5, [.ref a2, .int 6])), (t3, .inr (5, [.ref a3, .int 3])), (a1, .inl (cI, 240, .inl RA)), (a2, .inl (cI, 30, .inl RI)), (a3, .inl (cI, 36, .inl RC))] sz)) 0 0 (va_A [(o, .inr (1, [.ref h])), (h, .inr (4, [.ref t1, .ref t2, .ref t3, .int na, .int ni, .int dy, .int vl, .int db])), (t1, .inr (5, [.ref a1, .int 10])), (t2, .inr (5, [.ref a2, .int 6])), (t3, .inr (5, [.ref a3, .int 3])), (a1, .inl (cI, 240, .inl RA)), (a2, .inl (cI, 30, .inl RI)), (a3, .inl (cI, 36, .inl RC))] sz) := by
  refine mkM (y := yX2_rateOfInterviews) (wsl := wsX2_rateOfInterviews) (fun Fr => qI D (TY cI cC cS) (fun (r : Int32) (u : Int32) => fX2_rateOfInterviews RA na = u ∧ r = u) (fun u => [(o, .inr (1, [.ref h])), (h, .inr (4, [.ref t1, .ref t2, .ref t3, .int na, .int ni, .int dy, .int vl, .int db])), (t1, .inr (5, [.ref a1, .int 10])), (t2, .inr (5, [.ref a2, .int 6])), (t3, .inr (5, [.ref a3, .int 3])), (a1, .inl (cI, 240, .inl RA)), (a2, .inl (cI, 30, .inl RI)), (a3, .inl (cI, 36, .inl RC))]) Fr) (cc := cX2_rateOfInterviews) (maxL := 2) (ret := (some .int)) (own := RX2) (lv := [(0, .ref o)]) (by decide) rfl rfl (Nat.le_of_ble_eq_true rfl) rfl ?_
  intro p e s m below meth c Fr ls hx hb hr hts hown hml hlk hin hP hK hD hS hA hAe hsz hX hl
  have w_1 := hts (.fieldLink RX2 9 "FieldQuotas$Overview" "survey" "LFieldQuotas$Survey;") (List.mem_of_getElem? (i := 1) rfl)
  have w_2 := sub_r (big := wsX2_rateOfInterviews) (u_ws RX2 TX2 1) [30] rfl
  refine lv_aload_n hx hb dX2_rateOfInterviews_0 rfl (lv_at hl 0 rfl) ?_
  refine va_get (D := D) (ci := 1) (C := RX2) (T := TX2) (N := 1) hx hb hts w_2 hown hK hP 0 rfl rfl 0 (by decide) w_1 (fun _ h9 => h9) rfl dX2_rateOfInterviews_1 ?_
  refine callVi (As := []) (rest := []) (mX5_addressCount l D cI cC cS _ h t1 t2 t3 a1 a2 a3 RA RI RC na ni dy vl db) ⟨hx, hb, hml, hown, hts⟩ (cwV 0 hts gX2_rateOfInterviews_X5_addressCount rfl rfl rfl (by decide +kernel) ⟨Nat.le_of_ble_eq_true rfl, Nat.le_of_ble_eq_true rfl⟩) wN_blind (fun _ _ hW => wN_warm hW hX) hP hK hD hS hA hl [1, 2, 3, 4, 5, 6, 7] rfl rfl 0 4 rfl rfl rfl rfl rfl (Nat.le_of_ble_eq_true rfl) dX2_rateOfInterviews_4 ⟨Nat.zero_le _, Nat.zero_le _⟩ (fun _ => rfl) (fun u_ H locs hk2 hP hD hS => ?_)
  obtain ⟨r_2, e_r_2⟩ : ∃ z, z = u_ := ⟨_, rfl⟩
  subst e_r_2
  have hP : va_P D vwCl [(o, .inr (1, [.ref h])), (h, .inr (4, [.ref t1, .ref t2, .ref t3, .int na, .int ni, .int dy, .int vl, .int db])), (t1, .inr (5, [.ref a1, .int 10])), (t2, .inr (5, [.ref a2, .int 6])), (t3, .inr (5, [.ref a3, .int 3])), (a1, .inl (cI, 240, .inl RA)), (a2, .inl (cI, 30, .inl RI)), (a3, .inl (cI, 36, .inl RC))] H := hP
  have hD : va_D Fr [(o, .inr (1, [.ref h])), (h, .inr (4, [.ref t1, .ref t2, .ref t3, .int na, .int ni, .int dy, .int vl, .int db])), (t1, .inr (5, [.ref a1, .int 10])), (t2, .inr (5, [.ref a2, .int 6])), (t3, .inr (5, [.ref a3, .int 3])), (a1, .inl (cI, 240, .inl RA)), (a2, .inl (cI, 30, .inl RI)), (a3, .inl (cI, 36, .inl RC))] := hD
  have hk2 : na = r_2 := hk2
  subst hk2
  refine W.eq (g2 := F0 m 7 ls [.int na]) rfl ?_
  refine lv_aload_n hx hb dX2_rateOfInterviews_7 rfl (lv_at hl 0 rfl) ?_
  refine lv_iconst (v := 0) hx hb dX2_rateOfInterviews_8 (by decide) ?_
  refine callVi (As := [.int 0]) (rest := [.int na]) (mX2_addressesWith l D cI cC cS _ o h t1 t2 t3 a1 a2 a3 RA RI RC na ni dy vl db 0) ⟨hx, hb, hml, hown, hts⟩ (cwV 1 hts gX2_rateOfInterviews_X2_addressesWith rfl rfl rfl (by decide +kernel) ⟨Nat.le_of_ble_eq_true rfl, Nat.le_of_ble_eq_true rfl⟩) wN_blind (fun _ _ hW => wN_warm hW hX) hP hK hD hS hA hl [0, 1, 2, 3, 4, 5, 6, 7] rfl rfl 0 1 rfl rfl rfl rfl rfl (Nat.le_of_ble_eq_true rfl) dX2_rateOfInterviews_9 ⟨Nat.zero_le _, Nat.zero_le _⟩ (fun _ => rfl) (fun u_ H locs hk4 hP hD hS => ?_)
  obtain ⟨r_4, e_r_4⟩ : ∃ z, z = u_ := ⟨_, rfl⟩
  subst e_r_4
  have hP : va_P D vwCl [(o, .inr (1, [.ref h])), (h, .inr (4, [.ref t1, .ref t2, .ref t3, .int na, .int ni, .int dy, .int vl, .int db])), (t1, .inr (5, [.ref a1, .int 10])), (t2, .inr (5, [.ref a2, .int 6])), (t3, .inr (5, [.ref a3, .int 3])), (a1, .inl (cI, 240, .inl RA)), (a2, .inl (cI, 30, .inl RI)), (a3, .inl (cI, 36, .inl RC))] H := hP
  have hD : va_D Fr [(o, .inr (1, [.ref h])), (h, .inr (4, [.ref t1, .ref t2, .ref t3, .int na, .int ni, .int dy, .int vl, .int db])), (t1, .inr (5, [.ref a1, .int 10])), (t2, .inr (5, [.ref a2, .int 6])), (t3, .inr (5, [.ref a3, .int 3])), (a1, .inl (cI, 240, .inl RA)), (a2, .inl (cI, 30, .inl RI)), (a3, .inl (cI, 36, .inl RC))] := hD
  refine W.eq (g2 := F0 m 12 ls [.int r_4, .int na]) rfl ?_
  refine lv_isub hx hb dX2_rateOfInterviews_12 ?_
  refine lv_topi (fun y_5 ey_5 => ?_)
  refine lv_istore_n (lv' := [(1, .int y_5), (0, .ref o)]) hx hb dX2_rateOfInterviews_13 rfl hl (by decide) rfl (fun ls hl => ?_)
  refine lv_iload_n hx hb dX2_rateOfInterviews_14 rfl (lv_at hl 0 rfl) ?_
  refine lv_if_gt (tgt := 21) hx hb dX2_rateOfInterviews_15 (by decide) (fun c15 => ?_) (fun c15 => ?_)
  · refine lv_aload_n hx hb dX2_rateOfInterviews_21 rfl (lv_at hl 1 rfl) ?_
    refine lv_iconst (v := 1) hx hb dX2_rateOfInterviews_22 (by decide) ?_
    refine callVi (As := [.int 1]) (rest := []) (mX2_addressesWith l D cI cC cS _ o h t1 t2 t3 a1 a2 a3 RA RI RC na ni dy vl db 1) ⟨hx, hb, hml, hown, hts⟩ (cwV 1 hts gX2_rateOfInterviews_X2_addressesWith rfl rfl rfl (by decide +kernel) ⟨Nat.le_of_ble_eq_true rfl, Nat.le_of_ble_eq_true rfl⟩) wN_blind (fun _ _ hW => wN_warm hW hX) hP hK hD hS hA hl [0, 1, 2, 3, 4, 5, 6, 7] rfl rfl 0 1 rfl rfl rfl rfl rfl (Nat.le_of_ble_eq_true rfl) dX2_rateOfInterviews_23 ⟨Nat.zero_le _, Nat.zero_le _⟩ (fun _ => rfl) (fun u_ H locs hk7 hP hD hS => ?_)
    obtain ⟨r_7, e_r_7⟩ : ∃ z, z = u_ := ⟨_, rfl⟩
    subst e_r_7
    have hP : va_P D vwCl [(o, .inr (1, [.ref h])), (h, .inr (4, [.ref t1, .ref t2, .ref t3, .int na, .int ni, .int dy, .int vl, .int db])), (t1, .inr (5, [.ref a1, .int 10])), (t2, .inr (5, [.ref a2, .int 6])), (t3, .inr (5, [.ref a3, .int 3])), (a1, .inl (cI, 240, .inl RA)), (a2, .inl (cI, 30, .inl RI)), (a3, .inl (cI, 36, .inl RC))] H := hP
    have hD : va_D Fr [(o, .inr (1, [.ref h])), (h, .inr (4, [.ref t1, .ref t2, .ref t3, .int na, .int ni, .int dy, .int vl, .int db])), (t1, .inr (5, [.ref a1, .int 10])), (t2, .inr (5, [.ref a2, .int 6])), (t3, .inr (5, [.ref a3, .int 3])), (a1, .inl (cI, 240, .inl RA)), (a2, .inl (cI, 30, .inl RI)), (a3, .inl (cI, 36, .inl RC))] := hD
    refine W.eq (g2 := F0 m 26 ls [.int r_7]) rfl ?_
    refine lv_i2f hx hb dX2_rateOfInterviews_26 ?_
    refine lv_iload_n hx hb dX2_rateOfInterviews_27 rfl (lv_at hl 0 rfl) ?_
    refine lv_i2f hx hb dX2_rateOfInterviews_28 ?_
    refine lv_fdiv hx hb dX2_rateOfInterviews_29 (fl_div _ (fl_pos c15)) ?_
    refine callSi (As := [.float (FP.fdiv (FP.i2f r_7) (FP.i2f y_5))]) (rest := []) (mX2_bitsOf l D cI cC cS _ (FP.fdiv (FP.i2f r_7) (FP.i2f y_5)) (fl_nndiv _ (fl_pos c15))) ⟨hx, hb, hml, hown, hts⟩ (va_cwS 1 hts gX2_rateOfInterviews_X2_bitsOf rfl rfl rfl (by decide +kernel) ⟨Nat.le_of_ble_eq_true rfl, Nat.le_of_ble_eq_true rfl⟩) hP hK hD hS hA hl rfl rfl (Nat.le_of_ble_eq_true rfl) dX2_rateOfInterviews_30 ⟨Nat.zero_le _, Nat.zero_le _⟩ (fun u_ H locs hk9 hP hS => ?_)
    obtain ⟨r_9, e_r_9⟩ : ∃ z, z = u_ := ⟨_, rfl⟩
    subst e_r_9
    refine W.eq (g2 := F0 m 33 ls [.int r_9]) rfl ?_
    exact endI hx hb hr hlk hP hK hD hS dX2_rateOfInterviews_33 r_9 rfl ⟨(bd1_e hk4).trans ((bd1_n ey_5).trans ((if_pos c15).trans ((bd1_e hk7).trans ((bd1_e hk9).trans rfl)))), rfl⟩
  · refine lv_bipush (v := (-4)) hx hb dX2_rateOfInterviews_18 (by decide) ?_
    exact endI hx hb hr hlk hP hK hD hS dX2_rateOfInterviews_20 (-4) rfl ⟨(bd1_e hk4).trans ((bd1_n ey_5).trans ((if_neg c15).trans rfl)), rfl⟩

/-- the value of X2_weightBits, path by path -/
def fX2_weightBits (RC : Nat → Int32) (area : Int32) (group : Int32) : Int32 :=
  bd1 (fX5_ofCell RC area group 1) (fun (r_2 : Int32) => (if (0 : Int32) < r_2 then bd1 (fX2_weightOf RC area group) (fun (r_4 : UInt32) => bd1 (fX2_bitsOf r_4) (fun (r_6 : Int32) => r_6)) else (-4)))

set_option maxHeartbeats 4000000 in
set_option maxRecDepth 100000 in
/-- X2_weightBits -/
theorem mX2_weightBits (l : Launch) (D : va_G) (cI cC cS : ClassId) (sz : Nat) (o : Nat) (h : Nat) (t1 : Nat) (t2 : Nat) (t3 : Nat) (a1 : Nat) (a2 : Nat) (a3 : Nat) (RA : Nat → Int32) (RI : Nat → Int32) (RC : Nat → Int32) (na : Int32) (ni : Int32) (dy : Int32) (vl : Int32) (db : Int32) (area : Int32) (group : Int32)  : Met l yX2_weightBits wsX2_weightBits ({ frames := 3, cells := 0, slots := 0, locals := 69 } : Jvm.Room) (va_Pc [.ref o, .int area, .int group] (wPre D (TY cI cC cS) [(o, .inr (1, [.ref h])), (h, .inr (4, [.ref t1, .ref t2, .ref t3, .int na, .int ni, .int dy, .int vl, .int db])), (t1, .inr (5, [.ref a1, .int 10])), (t2, .inr (5, [.ref a2, .int 6])), (t3, .inr (5, [.ref a3, .int 3])), (a1, .inl (cI, 240, .inl RA)), (a2, .inl (cI, 30, .inl RI)), (a3, .inl (cI, 36, .inl RC))] sz wN)) (qI D (TY cI cC cS) (fun (r : Int32) (u : Int32) => fX2_weightBits RC area group = u ∧ r = u) (fun u => [(o, .inr (1, [.ref h])), (h, .inr (4, [.ref t1, .ref t2, .ref t3, .int na, .int ni, .int dy, .int vl, .int db])), (t1, .inr (5, [.ref a1, .int 10])), (t2, .inr (5, [.ref a2, .int 6])), (t3, .inr (5, [.ref a3, .int 3])), (a1, .inl (cI, 240, .inl RA)), (a2, .inl (cI, 30, .inl RI)), (a3, .inl (cI, 36, .inl RC))]) (va_A [(o, .inr (1, [.ref h])), (h, .inr (4, [.ref t1, .ref t2, .ref t3, .int na, .int ni, .int dy, .int vl, .int db])), (t1, .inr (5, [.ref a1, .int 10])), (t2, .inr (5, [.ref a2, .int 6])), (t3, .inr (5, [.ref a3, .int 3])), (a1, .inl (cI, 240, .inl RA)), (a2, .inl (cI, 30, .inl RI)), (a3, .inl (cI, 36, .inl RC))] sz)) 0 0 (va_A [(o, .inr (1, [.ref h])), (h, .inr (4, [.ref t1, .ref t2, .ref t3, .int na, .int ni, .int dy, .int vl, .int db])), (t1, .inr (5, [.ref a1, .int 10])), (t2, .inr (5, [.ref a2, .int 6])), (t3, .inr (5, [.ref a3, .int 3])), (a1, .inl (cI, 240, .inl RA)), (a2, .inl (cI, 30, .inl RI)), (a3, .inl (cI, 36, .inl RC))] sz) := by
  refine mkM (y := yX2_weightBits) (wsl := wsX2_weightBits) (fun Fr => qI D (TY cI cC cS) (fun (r : Int32) (u : Int32) => fX2_weightBits RC area group = u ∧ r = u) (fun u => [(o, .inr (1, [.ref h])), (h, .inr (4, [.ref t1, .ref t2, .ref t3, .int na, .int ni, .int dy, .int vl, .int db])), (t1, .inr (5, [.ref a1, .int 10])), (t2, .inr (5, [.ref a2, .int 6])), (t3, .inr (5, [.ref a3, .int 3])), (a1, .inl (cI, 240, .inl RA)), (a2, .inl (cI, 30, .inl RI)), (a3, .inl (cI, 36, .inl RC))]) Fr) (cc := cX2_weightBits) (maxL := 3) (ret := (some .int)) (own := RX2) (lv := [(0, .ref o), (1, .int area), (2, .int group)]) (by decide) rfl rfl (Nat.le_of_ble_eq_true rfl) rfl ?_
  intro p e s m below meth c Fr ls hx hb hr hts hown hml hlk hin hP hK hD hS hA hAe hsz hX hl
  have w_1 := hts (.fieldLink RX2 9 "FieldQuotas$Overview" "survey" "LFieldQuotas$Survey;") (List.mem_of_getElem? (i := 1) rfl)
  have w_2 := sub_r (big := wsX2_weightBits) (u_ws RX2 TX2 1) [25] rfl
  refine lv_aload_n hx hb dX2_weightBits_0 rfl (lv_at hl 0 rfl) ?_
  refine va_get (D := D) (ci := 1) (C := RX2) (T := TX2) (N := 1) hx hb hts w_2 hown hK hP 0 rfl rfl 0 (by decide) w_1 (fun _ h9 => h9) rfl dX2_weightBits_1 ?_
  refine lv_iload_n hx hb dX2_weightBits_4 rfl (lv_at hl 1 rfl) ?_
  refine lv_iload_n hx hb dX2_weightBits_5 rfl (lv_at hl 2 rfl) ?_
  refine lv_iconst (v := 1) hx hb dX2_weightBits_6 (by decide) ?_
  refine callVi (As := [.int area, .int group, .int 1]) (rest := []) (mX5_ofCell l D cI cC cS _ h t1 t2 t3 a1 a2 a3 RA RI RC na ni dy vl db area group 1) ⟨hx, hb, hml, hown, hts⟩ (cwV 3 hts gX2_weightBits_X5_ofCell rfl rfl rfl (by decide +kernel) ⟨Nat.le_of_ble_eq_true rfl, Nat.le_of_ble_eq_true rfl⟩) wN_blind (fun _ _ hW => wN_warm hW hX) hP hK hD hS hA hl [1, 2, 3, 4, 5, 6, 7] rfl rfl 0 4 rfl rfl rfl rfl rfl (Nat.le_of_ble_eq_true rfl) dX2_weightBits_7 ⟨Nat.zero_le _, Nat.zero_le _⟩ (fun _ => rfl) (fun u_ H locs hk2 hP hD hS => ?_)
  obtain ⟨r_2, e_r_2⟩ : ∃ z, z = u_ := ⟨_, rfl⟩
  subst e_r_2
  have hP : va_P D vwCl [(o, .inr (1, [.ref h])), (h, .inr (4, [.ref t1, .ref t2, .ref t3, .int na, .int ni, .int dy, .int vl, .int db])), (t1, .inr (5, [.ref a1, .int 10])), (t2, .inr (5, [.ref a2, .int 6])), (t3, .inr (5, [.ref a3, .int 3])), (a1, .inl (cI, 240, .inl RA)), (a2, .inl (cI, 30, .inl RI)), (a3, .inl (cI, 36, .inl RC))] H := hP
  have hD : va_D Fr [(o, .inr (1, [.ref h])), (h, .inr (4, [.ref t1, .ref t2, .ref t3, .int na, .int ni, .int dy, .int vl, .int db])), (t1, .inr (5, [.ref a1, .int 10])), (t2, .inr (5, [.ref a2, .int 6])), (t3, .inr (5, [.ref a3, .int 3])), (a1, .inl (cI, 240, .inl RA)), (a2, .inl (cI, 30, .inl RI)), (a3, .inl (cI, 36, .inl RC))] := hD
  refine W.eq (g2 := F0 m 10 ls [.int r_2]) rfl ?_
  refine lv_if_gt (tgt := 16) hx hb dX2_weightBits_10 (by decide) (fun c10 => ?_) (fun c10 => ?_)
  · refine lv_aload_n hx hb dX2_weightBits_16 rfl (lv_at hl 0 rfl) ?_
    refine lv_iload_n hx hb dX2_weightBits_17 rfl (lv_at hl 1 rfl) ?_
    refine lv_iload_n hx hb dX2_weightBits_18 rfl (lv_at hl 2 rfl) ?_
    refine callVf (As := [.int area, .int group]) (rest := []) (mX2_weightOf l D cI cC cS _ o h t1 t2 t3 a1 a2 a3 RA RI RC na ni dy vl db area group) ⟨hx, hb, hml, hown, hts⟩ (cwV 2 hts gX2_weightBits_X2_weightOf rfl rfl rfl (by decide +kernel) ⟨Nat.le_of_ble_eq_true rfl, Nat.le_of_ble_eq_true rfl⟩) wN_blind (fun _ _ hW => wN_warm hW hX) hP hK hD hS hA hl [0, 1, 2, 3, 4, 5, 6, 7] rfl rfl 0 1 rfl rfl rfl rfl rfl (Nat.le_of_ble_eq_true rfl) dX2_weightBits_19 ⟨Nat.zero_le _, Nat.zero_le _⟩ (fun _ => rfl) (fun u_ H locs hk4 hP hD hS => ?_)
    obtain ⟨r_4, e_r_4⟩ : ∃ z, z = u_ := ⟨_, rfl⟩
    subst e_r_4
    have hP : va_P D vwCl [(o, .inr (1, [.ref h])), (h, .inr (4, [.ref t1, .ref t2, .ref t3, .int na, .int ni, .int dy, .int vl, .int db])), (t1, .inr (5, [.ref a1, .int 10])), (t2, .inr (5, [.ref a2, .int 6])), (t3, .inr (5, [.ref a3, .int 3])), (a1, .inl (cI, 240, .inl RA)), (a2, .inl (cI, 30, .inl RI)), (a3, .inl (cI, 36, .inl RC))] H := hP
    have hD : va_D Fr [(o, .inr (1, [.ref h])), (h, .inr (4, [.ref t1, .ref t2, .ref t3, .int na, .int ni, .int dy, .int vl, .int db])), (t1, .inr (5, [.ref a1, .int 10])), (t2, .inr (5, [.ref a2, .int 6])), (t3, .inr (5, [.ref a3, .int 3])), (a1, .inl (cI, 240, .inl RA)), (a2, .inl (cI, 30, .inl RI)), (a3, .inl (cI, 36, .inl RC))] := hD
    refine W.eq (g2 := F0 m 22 ls [.float r_4]) rfl ?_
    refine callSi (As := [.float r_4]) (rest := []) (mX2_bitsOf l D cI cC cS _ r_4 (fm_nn (hk4 ▸ wt_mag RC area group) (by decide))) ⟨hx, hb, hml, hown, hts⟩ (va_cwS 1 hts gX2_weightBits_X2_bitsOf rfl rfl rfl (by decide +kernel) ⟨Nat.le_of_ble_eq_true rfl, Nat.le_of_ble_eq_true rfl⟩) hP hK hD hS hA hl rfl rfl (Nat.le_of_ble_eq_true rfl) dX2_weightBits_22 ⟨Nat.zero_le _, Nat.zero_le _⟩ (fun u_ H locs hk6 hP hS => ?_)
    obtain ⟨r_6, e_r_6⟩ : ∃ z, z = u_ := ⟨_, rfl⟩
    subst e_r_6
    refine W.eq (g2 := F0 m 25 ls [.int r_6]) rfl ?_
    exact endI hx hb hr hlk hP hK hD hS dX2_weightBits_25 r_6 rfl ⟨(bd1_e hk2).trans ((if_pos c10).trans ((bd1_e hk4).trans ((bd1_e hk6).trans rfl))), rfl⟩
  · refine lv_bipush (v := (-4)) hx hb dX2_weightBits_13 (by decide) ?_
    exact endI hx hb hr hlk hP hK hD hS dX2_weightBits_15 (-4) rfl ⟨(bd1_e hk2).trans ((if_neg c10).trans rfl), rfl⟩

/-- the loop of X2_partOfGroup at 4 -/
def fX2_partOfGroup_4 (RC : Nat → Int32) (group : Int32) : Nat → UInt32 → Int32 → Int32
  | 0, _, _ => default
  | fu + 1, x2, x3 =>
    (if (3 : Int32) ≤ x3 then (if (0 : Int32) < Op.cmpValue (FP.fcmp x2 FP.fconst0) .l then bd1 (fX2_addWeights RC FP.fconst0 group) (fun (r_2 : UInt32) => bd1 (fX2_bitsOf (FP.fdiv r_2 x2)) (fun (r_4 : Int32) => r_4)) else (-4)) else bd1 (fX2_addWeights RC x2 x3) (fun (r_6 : UInt32) => fX2_partOfGroup_4 RC group fu r_6 (x3 + 1)))
theorem fX2_partOfGroup_4_s (RC : Nat → Int32) (group : Int32) (fu : Nat) (x2 : UInt32) (x3 : Int32) : fX2_partOfGroup_4 RC group (fu + 1) x2 x3 =
    (if (3 : Int32) ≤ x3 then (if (0 : Int32) < Op.cmpValue (FP.fcmp x2 FP.fconst0) .l then bd1 (fX2_addWeights RC FP.fconst0 group) (fun (r_2 : UInt32) => bd1 (fX2_bitsOf (FP.fdiv r_2 x2)) (fun (r_4 : Int32) => r_4)) else (-4)) else bd1 (fX2_addWeights RC x2 x3) (fun (r_6 : UInt32) => fX2_partOfGroup_4 RC group fu r_6 (x3 + 1))) := rfl

/-- the value of X2_partOfGroup, path by path -/
def fX2_partOfGroup (RC : Nat → Int32) (group : Int32) : Int32 :=
  fX2_partOfGroup_4 RC group (((3 : Int32).toInt - (0 : Int32).toInt).toNat + 1) FP.fconst0 0

set_option maxHeartbeats 4000000 in
set_option maxRecDepth 100000 in
/-- X2_partOfGroup -/
theorem mX2_partOfGroup (l : Launch) (D : va_G) (cI cC cS : ClassId) (sz : Nat) (o : Nat) (h : Nat) (t1 : Nat) (t2 : Nat) (t3 : Nat) (a1 : Nat) (a2 : Nat) (a3 : Nat) (RA : Nat → Int32) (RI : Nat → Int32) (RC : Nat → Int32) (na : Int32) (ni : Int32) (dy : Int32) (vl : Int32) (db : Int32) (group : Int32)  : Met l yX2_partOfGroup wsX2_partOfGroup ({ frames := 4, cells := 0, slots := 0, locals := 94 } : Jvm.Room) (va_Pc [.ref o, .int group] (wPre D (TY cI cC cS) [(o, .inr (1, [.ref h])), (h, .inr (4, [.ref t1, .ref t2, .ref t3, .int na, .int ni, .int dy, .int vl, .int db])), (t1, .inr (5, [.ref a1, .int 10])), (t2, .inr (5, [.ref a2, .int 6])), (t3, .inr (5, [.ref a3, .int 3])), (a1, .inl (cI, 240, .inl RA)), (a2, .inl (cI, 30, .inl RI)), (a3, .inl (cI, 36, .inl RC))] sz wN)) (qI D (TY cI cC cS) (fun (r : Int32) (u : Int32) => fX2_partOfGroup RC group = u ∧ r = u) (fun u => [(o, .inr (1, [.ref h])), (h, .inr (4, [.ref t1, .ref t2, .ref t3, .int na, .int ni, .int dy, .int vl, .int db])), (t1, .inr (5, [.ref a1, .int 10])), (t2, .inr (5, [.ref a2, .int 6])), (t3, .inr (5, [.ref a3, .int 3])), (a1, .inl (cI, 240, .inl RA)), (a2, .inl (cI, 30, .inl RI)), (a3, .inl (cI, 36, .inl RC))]) (va_A [(o, .inr (1, [.ref h])), (h, .inr (4, [.ref t1, .ref t2, .ref t3, .int na, .int ni, .int dy, .int vl, .int db])), (t1, .inr (5, [.ref a1, .int 10])), (t2, .inr (5, [.ref a2, .int 6])), (t3, .inr (5, [.ref a3, .int 3])), (a1, .inl (cI, 240, .inl RA)), (a2, .inl (cI, 30, .inl RI)), (a3, .inl (cI, 36, .inl RC))] sz)) 0 0 (va_A [(o, .inr (1, [.ref h])), (h, .inr (4, [.ref t1, .ref t2, .ref t3, .int na, .int ni, .int dy, .int vl, .int db])), (t1, .inr (5, [.ref a1, .int 10])), (t2, .inr (5, [.ref a2, .int 6])), (t3, .inr (5, [.ref a3, .int 3])), (a1, .inl (cI, 240, .inl RA)), (a2, .inl (cI, 30, .inl RI)), (a3, .inl (cI, 36, .inl RC))] sz) := by
  refine mkM (y := yX2_partOfGroup) (wsl := wsX2_partOfGroup) (fun Fr => qI D (TY cI cC cS) (fun (r : Int32) (u : Int32) => fX2_partOfGroup RC group = u ∧ r = u) (fun u => [(o, .inr (1, [.ref h])), (h, .inr (4, [.ref t1, .ref t2, .ref t3, .int na, .int ni, .int dy, .int vl, .int db])), (t1, .inr (5, [.ref a1, .int 10])), (t2, .inr (5, [.ref a2, .int 6])), (t3, .inr (5, [.ref a3, .int 3])), (a1, .inl (cI, 240, .inl RA)), (a2, .inl (cI, 30, .inl RI)), (a3, .inl (cI, 36, .inl RC))]) Fr) (cc := cX2_partOfGroup) (maxL := 4) (ret := (some .int)) (own := RX2) (lv := [(0, .ref o), (1, .int group)]) (by decide) rfl rfl (Nat.le_of_ble_eq_true rfl) rfl ?_
  intro p e s m below meth c Fr ls hx hb hr hts hown hml hlk hin hP hK hD hS hA hAe hsz hX hl
  refine lv_fconst0 hx hb dX2_partOfGroup_0 ?_
  refine lv_fstore_n (lv' := [(2, .float FP.fconst0), (0, .ref o), (1, .int group)]) hx hb dX2_partOfGroup_1 rfl hl (by decide) rfl (fun ls hl => ?_)
  refine lv_iconst (v := 0) hx hb dX2_partOfGroup_2 (by decide) ?_
  refine lv_istore_n (lv' := [(3, .int 0), (2, .float FP.fconst0), (0, .ref o), (1, .int group)]) hx hb dX2_partOfGroup_3 rfl hl (by decide) rfl (fun ls hl => ?_)
  have K_4 : ∀ (fu : Nat) (x2 : UInt32) (x3 : Int32) (H : Heap) (locs : List Loc) (ls : Array Slot), va_P D vwCl [(o, .inr (1, [.ref h])), (h, .inr (4, [.ref t1, .ref t2, .ref t3, .int na, .int ni, .int dy, .int vl, .int db])), (t1, .inr (5, [.ref a1, .int 10])), (t2, .inr (5, [.ref a2, .int 6])), (t3, .inr (5, [.ref a3, .int 3])), (a1, .inl (cI, 240, .inl RA)), (a2, .inl (cI, 30, .inl RI)), (a3, .inl (cI, 36, .inl RC))] H → va_D Fr [(o, .inr (1, [.ref h])), (h, .inr (4, [.ref t1, .ref t2, .ref t3, .int na, .int ni, .int dy, .int vl, .int db])), (t1, .inr (5, [.ref a1, .int 10])), (t2, .inr (5, [.ref a2, .int 6])), (t3, .inr (5, [.ref a3, .int 3])), (a1, .inl (cI, 240, .inl RA)), (a2, .inl (cI, 30, .inl RI)), (a3, .inl (cI, 36, .inl RC))] → va_S Fr s.heap H locs → lv_has ls 4 [(0, .ref o), (1, .int group), (2, .float x2), (3, .int x3)] → (fm x2 (195 + 8 * x3.toNatClampNeg)) → (¬ x3 < 0) → (x3.toNatClampNeg ≤ 3) → ((3 : Int32).toInt - x3.toInt).toNat < fu → fX2_partOfGroup RC group = fX2_partOfGroup_4 RC group fu x2 x3 → W p l e (headSpec wsX2_partOfGroup ({ frames := 4, cells := 0, slots := 0, locals := 94 } : Jvm.Room)).room s m ([.ref o, .int group] : List Value).toArray below meth c H locs 0 0 (MQ below (qI D (TY cI cC cS) (fun (r : Int32) (u : Int32) => fX2_partOfGroup RC group = u ∧ r = u) (fun u => [(o, .inr (1, [.ref h])), (h, .inr (4, [.ref t1, .ref t2, .ref t3, .int na, .int ni, .int dy, .int vl, .int db])), (t1, .inr (5, [.ref a1, .int 10])), (t2, .inr (5, [.ref a2, .int 6])), (t3, .inr (5, [.ref a3, .int 3])), (a1, .inl (cI, 240, .inl RA)), (a2, .inl (cI, 30, .inl RI)), (a3, .inl (cI, 36, .inl RC))]) Fr) ([.ref o, .int group] : List Value).toArray s 0 0 Fr) (F0 m 4 ls []) := by
    intro fu
    induction fu with
    | zero => intros; exact absurd (by assumption) (Nat.not_lt_zero _)
    | succ fu ih_4 =>
      intro x2 x3 H locs ls hP hD hS hl hI hi0 h3 hm_4 E_4
      refine lv_iload_n hx hb dX2_partOfGroup_4 rfl (lv_at hl 3 rfl) ?_
      refine lv_iconst (v := 3) hx hb dX2_partOfGroup_5 (by decide) ?_
      refine lv_icmp_ge (tgt := 22) hx hb dX2_partOfGroup_6 (by decide) (fun c6 => ?_) (fun c6 => ?_)
      · refine lv_fload_n hx hb dX2_partOfGroup_22 rfl (lv_at hl 2 rfl) ?_
        refine lv_fconst0 hx hb dX2_partOfGroup_23 ?_
        refine lv_fcmp hx hb dX2_partOfGroup_24 ?_
        refine lv_if_gt (tgt := 31) hx hb dX2_partOfGroup_25 (by decide) (fun c25 => ?_) (fun c25 => ?_)
        · refine lv_aload_n hx hb dX2_partOfGroup_31 rfl (lv_at hl 0 rfl) ?_
          refine lv_fconst0 hx hb dX2_partOfGroup_32 ?_
          refine lv_iload_n hx hb dX2_partOfGroup_33 rfl (lv_at hl 1 rfl) ?_
          refine callVf (As := [.float FP.fconst0, .int group]) (rest := []) (mX2_addWeights l D cI cC cS _ o h t1 t2 t3 a1 a2 a3 RA RI RC na ni dy vl db 195 FP.fconst0 group (fm_0 (by decide)) (by decide) (by decide)) ⟨hx, hb, hml, hown, hts⟩ (cwV 2 hts gX2_partOfGroup_X2_addWeights rfl rfl rfl (by decide +kernel) ⟨Nat.le_of_ble_eq_true rfl, Nat.le_of_ble_eq_true rfl⟩) wN_blind (fun _ _ hW => wN_warm hW hX) hP hK hD hS hA hl [0, 1, 2, 3, 4, 5, 6, 7] rfl rfl 0 1 rfl rfl rfl rfl rfl (Nat.le_of_ble_eq_true rfl) dX2_partOfGroup_34 ⟨Nat.zero_le _, Nat.zero_le _⟩ (fun _ => rfl) (fun u_ H locs hk2 hP hD hS => ?_)
          obtain ⟨r_2, e_r_2⟩ : ∃ z, z = u_ := ⟨_, rfl⟩
          subst e_r_2
          have hP : va_P D vwCl [(o, .inr (1, [.ref h])), (h, .inr (4, [.ref t1, .ref t2, .ref t3, .int na, .int ni, .int dy, .int vl, .int db])), (t1, .inr (5, [.ref a1, .int 10])), (t2, .inr (5, [.ref a2, .int 6])), (t3, .inr (5, [.ref a3, .int 3])), (a1, .inl (cI, 240, .inl RA)), (a2, .inl (cI, 30, .inl RI)), (a3, .inl (cI, 36, .inl RC))] H := hP
          have hD : va_D Fr [(o, .inr (1, [.ref h])), (h, .inr (4, [.ref t1, .ref t2, .ref t3, .int na, .int ni, .int dy, .int vl, .int db])), (t1, .inr (5, [.ref a1, .int 10])), (t2, .inr (5, [.ref a2, .int 6])), (t3, .inr (5, [.ref a3, .int 3])), (a1, .inl (cI, 240, .inl RA)), (a2, .inl (cI, 30, .inl RI)), (a3, .inl (cI, 36, .inl RC))] := hD
          refine W.eq (g2 := F0 m 37 ls [.float r_2]) rfl ?_
          refine lv_fload_n hx hb dX2_partOfGroup_37 rfl (lv_at hl 2 rfl) ?_
          refine lv_fdiv hx hb dX2_partOfGroup_38 (fl_n32 (fl_part (fm_nn (hk2 ▸ aw_mag RC FP.fconst0 group (K := 195) (fm_0 (by decide)) (by decide) (by decide)) (by decide)) hI (by omega) c25)) ?_
          refine callSi (As := [.float (FP.fdiv r_2 x2)]) (rest := []) (mX2_bitsOf l D cI cC cS _ (FP.fdiv r_2 x2) (fl_part (fm_nn (hk2 ▸ aw_mag RC FP.fconst0 group (K := 195) (fm_0 (by decide)) (by decide) (by decide)) (by decide)) hI (by omega) c25)) ⟨hx, hb, hml, hown, hts⟩ (va_cwS 1 hts gX2_partOfGroup_X2_bitsOf rfl rfl rfl (by decide +kernel) ⟨Nat.le_of_ble_eq_true rfl, Nat.le_of_ble_eq_true rfl⟩) hP hK hD hS hA hl rfl rfl (Nat.le_of_ble_eq_true rfl) dX2_partOfGroup_39 ⟨Nat.zero_le _, Nat.zero_le _⟩ (fun u_ H locs hk4 hP hS => ?_)
          obtain ⟨r_4, e_r_4⟩ : ∃ z, z = u_ := ⟨_, rfl⟩
          subst e_r_4
          refine W.eq (g2 := F0 m 42 ls [.int r_4]) rfl ?_
          exact endI hx hb hr hlk hP hK hD hS dX2_partOfGroup_42 r_4 rfl ⟨(E_4).trans ((fX2_partOfGroup_4_s RC group fu x2 x3).trans ((if_pos c6).trans ((if_pos c25).trans ((bd1_e hk2).trans ((bd1_e hk4).trans rfl))))), rfl⟩
        · refine lv_bipush (v := (-4)) hx hb dX2_partOfGroup_28 (by decide) ?_
          exact endI hx hb hr hlk hP hK hD hS dX2_partOfGroup_30 (-4) rfl ⟨(E_4).trans ((fX2_partOfGroup_4_s RC group fu x2 x3).trans ((if_pos c6).trans ((if_neg c25).trans rfl))), rfl⟩
      · refine lv_aload_n hx hb dX2_partOfGroup_9 rfl (lv_at hl 0 rfl) ?_
        refine lv_fload_n hx hb dX2_partOfGroup_10 rfl (lv_at hl 2 rfl) ?_
        refine lv_iload_n hx hb dX2_partOfGroup_11 rfl (lv_at hl 3 rfl) ?_
        refine callVf (As := [.float x2, .int x3]) (rest := []) (mX2_addWeights l D cI cC cS _ o h t1 t2 t3 a1 a2 a3 RA RI RC na ni dy vl db (195 + 8 * x3.toNatClampNeg) x2 x3 hI (Nat.le_add_right _ _) (by have := cl_lt hi0 c6; have e3 : (3 : Int32).toNatClampNeg = 3 := (by decide); omega)) ⟨hx, hb, hml, hown, hts⟩ (cwV 2 hts gX2_partOfGroup_X2_addWeights rfl rfl rfl (by decide +kernel) ⟨Nat.le_of_ble_eq_true rfl, Nat.le_of_ble_eq_true rfl⟩) wN_blind (fun _ _ hW => wN_warm hW hX) hP hK hD hS hA hl [0, 1, 2, 3, 4, 5, 6, 7] rfl rfl 0 1 rfl rfl rfl rfl rfl (Nat.le_of_ble_eq_true rfl) dX2_partOfGroup_12 ⟨Nat.zero_le _, Nat.zero_le _⟩ (fun _ => rfl) (fun u_ H locs hk6 hP hD hS => ?_)
        obtain ⟨r_6, e_r_6⟩ : ∃ z, z = u_ := ⟨_, rfl⟩
        subst e_r_6
        have hP : va_P D vwCl [(o, .inr (1, [.ref h])), (h, .inr (4, [.ref t1, .ref t2, .ref t3, .int na, .int ni, .int dy, .int vl, .int db])), (t1, .inr (5, [.ref a1, .int 10])), (t2, .inr (5, [.ref a2, .int 6])), (t3, .inr (5, [.ref a3, .int 3])), (a1, .inl (cI, 240, .inl RA)), (a2, .inl (cI, 30, .inl RI)), (a3, .inl (cI, 36, .inl RC))] H := hP
        have hD : va_D Fr [(o, .inr (1, [.ref h])), (h, .inr (4, [.ref t1, .ref t2, .ref t3, .int na, .int ni, .int dy, .int vl, .int db])), (t1, .inr (5, [.ref a1, .int 10])), (t2, .inr (5, [.ref a2, .int 6])), (t3, .inr (5, [.ref a3, .int 3])), (a1, .inl (cI, 240, .inl RA)), (a2, .inl (cI, 30, .inl RI)), (a3, .inl (cI, 36, .inl RC))] := hD
        refine W.eq (g2 := F0 m 15 ls [.float r_6]) rfl ?_
        refine lv_fstore_n (lv' := [(2, .float r_6), (0, .ref o), (1, .int group), (3, .int x3)]) hx hb dX2_partOfGroup_15 rfl hl (by decide) rfl (fun ls hl => ?_)
        refine lv_iinc (v := x3 + 1) (lv' := [(3, .int (x3 + 1)), (2, .float r_6), (0, .ref o), (1, .int group)]) hx hb dX2_partOfGroup_16 hl (k := 3) rfl (by rfl) (by decide) rfl (fun ls hl => ?_)
        refine lv_goto (tgt := 4) hx hb dX2_partOfGroup_19 (by decide) ?_
        exact ih_4 r_6 (x3 + 1) _ _ ls hP hD hS (lv_sub hl [2, 3, 1, 0] rfl) (by rw [cl_up hi0 c6]; exact hk6 ▸ aw_mag RC x2 x3 (K := 195 + 8 * x3.toNatClampNeg) hI (Nat.le_add_right _ _) (by have := cl_lt hi0 c6; have e3 : (3 : Int32).toNatClampNeg = 3 := (by decide); omega)) (up_k hi0 c6) (by rw [cl_up hi0 c6]; have := cl_lt hi0 c6; have e3 : (3 : Int32).toNatClampNeg = 3 := (by decide); omega) (Nat.lt_of_lt_of_le (lp_dec c6) (Nat.le_of_lt_succ hm_4)) ((E_4).trans ((fX2_partOfGroup_4_s RC group fu x2 x3).trans ((if_neg c6).trans ((bd1_e hk6).trans rfl))))
  exact K_4 (((3 : Int32).toInt - (0 : Int32).toInt).toNat + 1) FP.fconst0 0 _ _ ls hP hD hS (lv_sub hl [2, 3, 1, 0] rfl) (fm_0 (Nat.lt_of_lt_of_le (by decide) (Nat.le_add_right _ _))) (by decide) (by decide) (Nat.lt_succ_self _) rfl

