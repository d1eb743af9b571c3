theorem ix_m4 {x : Int32} (h0 : ¬ x < 0) (h1 : ¬ 12 ≤ x) : vp_in (x - x / 4 * 4) 4 := by
  obtain ⟨a, ha, rfl⟩ := vp_in_of (vp_k (n := 12) h0 h1 (vp_d rfl)) (by decide)
  have h : ∀ a : Nat, a < 12 → decide (0 ≤ ((nI a) - (nI a) / 4 * 4).toInt ∧ ((nI a) - (nI a) / 4 * 4).toInt < (4 : Nat)) = true := by decide +kernel
  exact vp_d (h a ha)
theorem ix_d4 {x : Int32} (h0 : ¬ x < 0) (h1 : ¬ 12 ≤ x) : vp_in (x / 4) 3 := by
  obtain ⟨a, ha, rfl⟩ := vp_in_of (vp_k (n := 12) h0 h1 (vp_d rfl)) (by decide)
  have h : ∀ a : Nat, a < 12 → decide (0 ≤ ((nI a) / 4).toInt ∧ ((nI a) / 4).toInt < (3 : Nat)) = true := by decide +kernel
  exact vp_d (h a ha)
theorem fl_partn {a b : UInt32} {K : Nat} (ha : FP.Core.fIsNaN a = false) (hb : fm b K) (hK : K ≤ 255) (h : ¬ Op.cmpValue (FP.fcmp b FP.fconst0) .l = 0) : FP.Core.fIsNaN (FP.fdiv a b) = false :=
  FP.Core.fdiv_out ha (fm_fin hb hK) (fun hz => h (by
    have h1 : FP.fcmp b FP.fconst0 = some .eq := FP.Core.zero_iff32.mpr hz
    rw [h1]
    rfl))
abbrev fMag (a : UInt32) (K : Nat) : Prop := fm a K
def fJxf58ca_floatToIntBits_5c35a (x : UInt32) : Int32 := x.toInt32
theorem mJxf58ca_floatToIntBits_5c35a (l : Launch) (D : va_G) (cI cC cS : ClassId) (sz : Nat) (x : UInt32) (hx0 : FP.fcmp x x = some .eq) : Met l yJxf58ca_floatToIntBits_5c35a wsJxf58ca_floatToIntBits_5c35a ({ frames := 1, cells := 0, slots := 0, locals := 20 } : Jvm.Room) (va_Pc [.float x] (wPre D (TY cI cC cS) [] sz X0)) (qI D (TY cI cC cS) (fun (r : Int32) (u : Int32) => fJxf58ca_floatToIntBits_5c35a x = u ∧ r = u) (fun _ => []) (va_A [] sz)) 0 0 (va_A [] sz) := mJxf58ca_bits l D cI cC cS sz x hx0

/-- the value of X9_weight, path by path -/
def fX9_weight (S : Nat → Int32) (area : Int32) (group : Int32) : UInt32 :=
  bd1 (fX9_ofCell S area group 2) (fun (r_2 : Int32) => bd1 (fX9_ofCell S area group 1) (fun (r_4 : Int32) => FP.fdiv (FP.i2f r_2) (FP.i2f r_4)))

set_option maxHeartbeats 4000000 in
set_option maxRecDepth 100000 in
/-- X9_weight -/
theorem mX9_weight (l : Launch) (D : va_G) (cI cC cS : ClassId) (sz : Nat) (o : Nat) (q1 : Nat) (q2 : Nat) (q3 : Nat) (q4 : Nat) (q5 : Nat) (S : Nat → Int32) (Bg : Nat → Int32) (Pa : Nat → Int32) (Tx : Nat → Int32) (Nu : Nat → Int32) (st : Int32) (ln : Int32) (ps : Int32) (fm : Bool) (rs : Int32) (area : Int32) (group : Int32) (hfr : vp_in area 4) (hfg : vp_in group 3) (hw : ¬ fX9_ofCell S area group 1 = 0) : Met l yX9_weight wsX9_weight ({ frames := 1, cells := 0, slots := 0, locals := 23 } : Jvm.Room) (va_Pc [.ref o, .int area, .int group] (wPre D (TY cI cC cS) [(o, .inr (7, [.ref q1, .ref q2, .ref q3, .int st, .ref q4, .int ln, .int ps, .int (bi fm), .int rs, .ref q5])), (q1, .inl (cI, 314, .inl S)), (q2, .inl (cI, 314, .inl Bg)), (q3, .inl (cI, 1256, .inl Pa)), (q4, .inl (cI, 80, .inl Tx)), (q5, .inl (cI, 5, .inl Nu))] sz X0)) (qF D (TY cI cC cS) (fun (r : UInt32) (u : UInt32) => fX9_weight S area group = u ∧ r = u) (fun u => [(o, .inr (7, [.ref q1, .ref q2, .ref q3, .int st, .ref q4, .int ln, .int ps, .int (bi fm), .int rs, .ref q5])), (q1, .inl (cI, 314, .inl S)), (q2, .inl (cI, 314, .inl Bg)), (q3, .inl (cI, 1256, .inl Pa)), (q4, .inl (cI, 80, .inl Tx)), (q5, .inl (cI, 5, .inl Nu))]) (va_A [(o, .inr (7, [.ref q1, .ref q2, .ref q3, .int st, .ref q4, .int ln, .int ps, .int (bi fm), .int rs, .ref q5])), (q1, .inl (cI, 314, .inl S)), (q2, .inl (cI, 314, .inl Bg)), (q3, .inl (cI, 1256, .inl Pa)), (q4, .inl (cI, 80, .inl Tx)), (q5, .inl (cI, 5, .inl Nu))] sz)) 0 0 (va_A [(o, .inr (7, [.ref q1, .ref q2, .ref q3, .int st, .ref q4, .int ln, .int ps, .int (bi fm), .int rs, .ref q5])), (q1, .inl (cI, 314, .inl S)), (q2, .inl (cI, 314, .inl Bg)), (q3, .inl (cI, 1256, .inl Pa)), (q4, .inl (cI, 80, .inl Tx)), (q5, .inl (cI, 5, .inl Nu))] sz) := by
  refine mkM (y := yX9_weight) (wsl := wsX9_weight) (fun Fr => qF D (TY cI cC cS) (fun (r : UInt32) (u : UInt32) => fX9_weight S area group = u ∧ r = u) (fun u => [(o, .inr (7, [.ref q1, .ref q2, .ref q3, .int st, .ref q4, .int ln, .int ps, .int (bi fm), .int rs, .ref q5])), (q1, .inl (cI, 314, .inl S)), (q2, .inl (cI, 314, .inl Bg)), (q3, .inl (cI, 1256, .inl Pa)), (q4, .inl (cI, 80, .inl Tx)), (q5, .inl (cI, 5, .inl Nu))]) Fr) (cc := cX9_weight) (maxL := 5) (ret := (some .float)) (own := RX9) (lv := [(0, .ref o), (1, .int area), (2, .int group)]) (by decide) rfl rfl (Nat.le_of_ble_eq_true rfl) rfl ?_
  intro p e s m below meth c Fr ls hx hb hr hts hown hml hlk hin hP hK hD hS hA hAe hsz hX hl
  refine lv_aload_n hx hb dX9_weight_0 rfl (lv_at hl 0 rfl) ?_
  refine lv_iload_n hx hb dX9_weight_1 rfl (lv_at hl 1 rfl) ?_
  refine lv_iload_n hx hb dX9_weight_2 rfl (lv_at hl 2 rfl) ?_
  refine lv_iconst (v := 2) hx hb dX9_weight_3 (by decide) ?_
  refine callVi (As := [.int area, .int group, .int 2]) (rest := []) (mX9_ofCell l D cI cC cS _ o q1 q2 q3 q4 q5 S Bg Pa Tx Nu st ln ps fm rs area group 2 hfr hfg (vp_d rfl)) ⟨hx, hb, hml, hown, hts⟩ (cwV 3 hts gX9_weight_X9_ofCell rfl rfl rfl (by decide +kernel) ⟨Nat.le_of_ble_eq_true rfl, Nat.le_of_ble_eq_true rfl⟩) X0_blind (fun _ _ _ => trivial) hP hK hD hS hA hl [0, 1, 2, 3, 4, 5] rfl rfl 0 7 rfl rfl rfl rfl rfl (Nat.le_of_ble_eq_true rfl) dX9_weight_4 ⟨Nat.zero_le _, Nat.zero_le _⟩ (fun _ => rfl) (fun u_ H locs hk2 hP hD hS => ?_)
  obtain ⟨r_2, e_r_2⟩ : ∃ z, z = u_ := ⟨_, rfl⟩
  subst e_r_2
  have hP : va_P D vwCl [(o, .inr (7, [.ref q1, .ref q2, .ref q3, .int st, .ref q4, .int ln, .int ps, .int (bi fm), .int rs, .ref q5])), (q1, .inl (cI, 314, .inl S)), (q2, .inl (cI, 314, .inl Bg)), (q3, .inl (cI, 1256, .inl Pa)), (q4, .inl (cI, 80, .inl Tx)), (q5, .inl (cI, 5, .inl Nu))] H := hP
  have hD : va_D Fr [(o, .inr (7, [.ref q1, .ref q2, .ref q3, .int st, .ref q4, .int ln, .int ps, .int (bi fm), .int rs, .ref q5])), (q1, .inl (cI, 314, .inl S)), (q2, .inl (cI, 314, .inl Bg)), (q3, .inl (cI, 1256, .inl Pa)), (q4, .inl (cI, 80, .inl Tx)), (q5, .inl (cI, 5, .inl Nu))] := hD
  refine W.eq (g2 := F0 m 7 ls [.int r_2]) rfl ?_
  refine lv_i2f hx hb dX9_weight_7 ?_
  refine lv_fstore_n (lv' := [(3, .float (FP.i2f r_2)), (0, .ref o), (1, .int area), (2, .int group)]) hx hb dX9_weight_8 rfl hl (by decide) rfl (fun ls hl => ?_)
  refine lv_aload_n hx hb dX9_weight_9 rfl (lv_at hl 1 rfl) ?_
  refine lv_iload_n hx hb dX9_weight_10 rfl (lv_at hl 2 rfl) ?_
  refine lv_iload_n hx hb dX9_weight_11 rfl (lv_at hl 3 rfl) ?_
  refine lv_iconst (v := 1) hx hb dX9_weight_12 (by decide) ?_
  refine callVi (As := [.int area, .int group, .int 1]) (rest := []) (mX9_ofCell l D cI cC cS _ o q1 q2 q3 q4 q5 S Bg Pa Tx Nu st ln ps fm rs area group 1 hfr hfg (vp_d rfl)) ⟨hx, hb, hml, hown, hts⟩ (cwV 3 hts gX9_weight_X9_ofCell rfl rfl rfl (by decide +kernel) ⟨Nat.le_of_ble_eq_true rfl, Nat.le_of_ble_eq_true rfl⟩) X0_blind (fun _ _ _ => trivial) hP hK hD hS hA hl [0, 1, 2, 3, 4, 5] rfl rfl 0 7 rfl rfl rfl rfl rfl (Nat.le_of_ble_eq_true rfl) dX9_weight_13 ⟨Nat.zero_le _, Nat.zero_le _⟩ (fun _ => rfl) (fun u_ H locs hk4 hP hD hS => ?_)
  obtain ⟨r_4, e_r_4⟩ : ∃ z, z = u_ := ⟨_, rfl⟩
  subst e_r_4
  have hP : va_P D vwCl [(o, .inr (7, [.ref q1, .ref q2, .ref q3, .int st, .ref q4, .int ln, .int ps, .int (bi fm), .int rs, .ref q5])), (q1, .inl (cI, 314, .inl S)), (q2, .inl (cI, 314, .inl Bg)), (q3, .inl (cI, 1256, .inl Pa)), (q4, .inl (cI, 80, .inl Tx)), (q5, .inl (cI, 5, .inl Nu))] H := hP
  have hD : va_D Fr [(o, .inr (7, [.ref q1, .ref q2, .ref q3, .int st, .ref q4, .int ln, .int ps, .int (bi fm), .int rs, .ref q5])), (q1, .inl (cI, 314, .inl S)), (q2, .inl (cI, 314, .inl Bg)), (q3, .inl (cI, 1256, .inl Pa)), (q4, .inl (cI, 80, .inl Tx)), (q5, .inl (cI, 5, .inl Nu))] := hD
  refine W.eq (g2 := F0 m 16 ls [.int r_4]) rfl ?_
  refine lv_i2f hx hb dX9_weight_16 ?_
  refine lv_fstore (lv' := [(4, .float (FP.i2f r_4)), (3, .float (FP.i2f r_2)), (0, .ref o), (1, .int area), (2, .int group)]) hx hb dX9_weight_17 hl (by decide) rfl (fun ls hl => ?_)
  refine lv_fload_n hx hb dX9_weight_19 rfl (lv_at hl 1 rfl) ?_
  refine lv_fload hx hb dX9_weight_20 (lv_at hl 0 rfl) ?_
  refine lv_fdiv hx hb dX9_weight_22 (fl_div _ (fl_nz (hk4 ▸ hw))) ?_
  exact endF hx hb hr hlk hP hK hD hS dX9_weight_23 (FP.fdiv (FP.i2f r_2) (FP.i2f r_4)) rfl ⟨(bd1_e hk2).trans ((bd1_e hk4).trans rfl), rfl⟩

theorem wt9_mag {S : Nat → Int32} {area group : Int32} (hw : ¬ fX9_ofCell S area group 1 = 0) : fm (fX9_weight S area group) 161 := by
  unfold fX9_weight
  simp only [bd1]
  exact fm_div (fl_nz hw)

/-- the value of X9_share, path by path -/
def fX9_share (S : Nat → Int32) (area : Int32) (group : Int32) : UInt32 :=
  bd1 (fX9_ofCell S area group 1) (fun (r_2 : Int32) => bd1 (fX9_weight S area group) (fun (r_4 : UInt32) => FP.fmul r_4 (FP.i2f r_2)))

set_option maxHeartbeats 4000000 in
set_option maxRecDepth 100000 in
/-- X9_share -/
theorem mX9_share (l : Launch) (D : va_G) (cI cC cS : ClassId) (sz : Nat) (o : Nat) (q1 : Nat) (q2 : Nat) (q3 : Nat) (q4 : Nat) (q5 : Nat) (S : Nat → Int32) (Bg : Nat → Int32) (Pa : Nat → Int32) (Tx : Nat → Int32) (Nu : Nat → Int32) (st : Int32) (ln : Int32) (ps : Int32) (fm : Bool) (rs : Int32) (area : Int32) (group : Int32) (hfr : vp_in area 4) (hfg : vp_in group 3) (hw : ¬ fX9_ofCell S area group 1 = 0) : Met l yX9_share wsX9_share ({ frames := 2, cells := 0, slots := 0, locals := 47 } : Jvm.Room) (va_Pc [.ref o, .int area, .int group] (wPre D (TY cI cC cS) [(o, .inr (7, [.ref q1, .ref q2, .ref q3, .int st, .ref q4, .int ln, .int ps, .int (bi fm), .int rs, .ref q5])), (q1, .inl (cI, 314, .inl S)), (q2, .inl (cI, 314, .inl Bg)), (q3, .inl (cI, 1256, .inl Pa)), (q4, .inl (cI, 80, .inl Tx)), (q5, .inl (cI, 5, .inl Nu))] sz X0)) (qF D (TY cI cC cS) (fun (r : UInt32) (u : UInt32) => fX9_share S area group = u ∧ r = u) (fun u => [(o, .inr (7, [.ref q1, .ref q2, .ref q3, .int st, .ref q4, .int ln, .int ps, .int (bi fm), .int rs, .ref q5])), (q1, .inl (cI, 314, .inl S)), (q2, .inl (cI, 314, .inl Bg)), (q3, .inl (cI, 1256, .inl Pa)), (q4, .inl (cI, 80, .inl Tx)), (q5, .inl (cI, 5, .inl Nu))]) (va_A [(o, .inr (7, [.ref q1, .ref q2, .ref q3, .int st, .ref q4, .int ln, .int ps, .int (bi fm), .int rs, .ref q5])), (q1, .inl (cI, 314, .inl S)), (q2, .inl (cI, 314, .inl Bg)), (q3, .inl (cI, 1256, .inl Pa)), (q4, .inl (cI, 80, .inl Tx)), (q5, .inl (cI, 5, .inl Nu))] sz)) 0 0 (va_A [(o, .inr (7, [.ref q1, .ref q2, .ref q3, .int st, .ref q4, .int ln, .int ps, .int (bi fm), .int rs, .ref q5])), (q1, .inl (cI, 314, .inl S)), (q2, .inl (cI, 314, .inl Bg)), (q3, .inl (cI, 1256, .inl Pa)), (q4, .inl (cI, 80, .inl Tx)), (q5, .inl (cI, 5, .inl Nu))] sz) := by
  refine mkM (y := yX9_share) (wsl := wsX9_share) (fun Fr => qF D (TY cI cC cS) (fun (r : UInt32) (u : UInt32) => fX9_share S area group = u ∧ r = u) (fun u => [(o, .inr (7, [.ref q1, .ref q2, .ref q3, .int st, .ref q4, .int ln, .int ps, .int (bi fm), .int rs, .ref q5])), (q1, .inl (cI, 314, .inl S)), (q2, .inl (cI, 314, .inl Bg)), (q3, .inl (cI, 1256, .inl Pa)), (q4, .inl (cI, 80, .inl Tx)), (q5, .inl (cI, 5, .inl Nu))]) Fr) (cc := cX9_share) (maxL := 4) (ret := (some .float)) (own := RX9) (lv := [(0, .ref o), (1, .int area), (2, .int group)]) (by decide) rfl rfl (Nat.le_of_ble_eq_true rfl) rfl ?_
  intro p e s m below meth c Fr ls hx hb hr hts hown hml hlk hin hP hK hD hS hA hAe hsz hX hl
  refine lv_aload_n hx hb dX9_share_0 rfl (lv_at hl 0 rfl) ?_
  refine lv_iload_n hx hb dX9_share_1 rfl (lv_at hl 1 rfl) ?_
  refine lv_iload_n hx hb dX9_share_2 rfl (lv_at hl 2 rfl) ?_
  refine lv_iconst (v := 1) hx hb dX9_share_3 (by decide) ?_
  refine callVi (As := [.int area, .int group, .int 1]) (rest := []) (mX9_ofCell l D cI cC cS _ o q1 q2 q3 q4 q5 S Bg Pa Tx Nu st ln ps fm rs area group 1 hfr hfg (vp_d rfl)) ⟨hx, hb, hml, hown, hts⟩ (cwV 3 hts gX9_share_X9_ofCell rfl rfl rfl (by decide +kernel) ⟨Nat.le_of_ble_eq_true rfl, Nat.le_of_ble_eq_true rfl⟩) X0_blind (fun _ _ _ => trivial) hP hK hD hS hA hl [0, 1, 2, 3, 4, 5] rfl rfl 0 7 rfl rfl rfl rfl rfl (Nat.le_of_ble_eq_true rfl) dX9_share_4 ⟨Nat.zero_le _, Nat.zero_le _⟩ (fun _ => rfl) (fun u_ H locs hk2 hP hD hS => ?_)
  obtain ⟨r_2, e_r_2⟩ : ∃ z, z = u_ := ⟨_, rfl⟩
  subst e_r_2
  have hP : va_P D vwCl [(o, .inr (7, [.ref q1, .ref q2, .ref q3, .int st, .ref q4, .int ln, .int ps, .int (bi fm), .int rs, .ref q5])), (q1, .inl (cI, 314, .inl S)), (q2, .inl (cI, 314, .inl Bg)), (q3, .inl (cI, 1256, .inl Pa)), (q4, .inl (cI, 80, .inl Tx)), (q5, .inl (cI, 5, .inl Nu))] H := hP
  have hD : va_D Fr [(o, .inr (7, [.ref q1, .ref q2, .ref q3, .int st, .ref q4, .int ln, .int ps, .int (bi fm), .int rs, .ref q5])), (q1, .inl (cI, 314, .inl S)), (q2, .inl (cI, 314, .inl Bg)), (q3, .inl (cI, 1256, .inl Pa)), (q4, .inl (cI, 80, .inl Tx)), (q5, .inl (cI, 5, .inl Nu))] := hD
  refine W.eq (g2 := F0 m 7 ls [.int r_2]) rfl ?_
  refine lv_i2f hx hb dX9_share_7 ?_
  refine lv_fstore_n (lv' := [(3, .float (FP.i2f r_2)), (0, .ref o), (1, .int area), (2, .int group)]) hx hb dX9_share_8 rfl hl (by decide) rfl (fun ls hl => ?_)
  refine lv_aload_n hx hb dX9_share_9 rfl (lv_at hl 1 rfl) ?_
  refine lv_iload_n hx hb dX9_share_10 rfl (lv_at hl 2 rfl) ?_
  refine lv_iload_n hx hb dX9_share_11 rfl (lv_at hl 3 rfl) ?_
  refine callVf (As := [.int area, .int group]) (rest := []) (mX9_weight l D cI cC cS _ o q1 q2 q3 q4 q5 S Bg Pa Tx Nu st ln ps fm rs area group hfr hfg hw) ⟨hx, hb, hml, hown, hts⟩ (cwV 2 hts gX9_share_X9_weight rfl rfl rfl (by decide +kernel) ⟨Nat.le_of_ble_eq_true rfl, Nat.le_of_ble_eq_true rfl⟩) X0_blind (fun _ _ _ => trivial) hP hK hD hS hA hl [0, 1, 2, 3, 4, 5] rfl rfl 0 7 rfl rfl rfl rfl rfl (Nat.le_of_ble_eq_true rfl) dX9_share_12 ⟨Nat.zero_le _, Nat.zero_le _⟩ (fun _ => rfl) (fun u_ H locs hk4 hP hD hS => ?_)
  obtain ⟨r_4, e_r_4⟩ : ∃ z, z = u_ := ⟨_, rfl⟩
  subst e_r_4
  have hP : va_P D vwCl [(o, .inr (7, [.ref q1, .ref q2, .ref q3, .int st, .ref q4, .int ln, .int ps, .int (bi fm), .int rs, .ref q5])), (q1, .inl (cI, 314, .inl S)), (q2, .inl (cI, 314, .inl Bg)), (q3, .inl (cI, 1256, .inl Pa)), (q4, .inl (cI, 80, .inl Tx)), (q5, .inl (cI, 5, .inl Nu))] H := hP
  have hD : va_D Fr [(o, .inr (7, [.ref q1, .ref q2, .ref q3, .int st, .ref q4, .int ln, .int ps, .int (bi fm), .int rs, .ref q5])), (q1, .inl (cI, 314, .inl S)), (q2, .inl (cI, 314, .inl Bg)), (q3, .inl (cI, 1256, .inl Pa)), (q4, .inl (cI, 80, .inl Tx)), (q5, .inl (cI, 5, .inl Nu))] := hD
  refine W.eq (g2 := F0 m 15 ls [.float r_4]) rfl ?_
  refine lv_fload_n hx hb dX9_share_15 rfl (lv_at hl 0 rfl) ?_
  refine lv_fmul hx hb dX9_share_16 (fl_n32 (fm_nn (fm_mul (hk4 ▸ wt9_mag hw) (fm_i _)) (by decide))) ?_
  exact endF hx hb hr hlk hP hK hD hS dX9_share_17 (FP.fmul r_4 (FP.i2f r_2)) rfl ⟨(bd1_e hk2).trans ((bd1_e hk4).trans rfl), rfl⟩

theorem sh9_mag {S : Nat → Int32} {area group : Int32} (hw : ¬ fX9_ofCell S area group 1 = 0) : fm (fX9_share S area group) 195 := by
  unfold fX9_share
  simp only [bd1]
  exact fm_mul (wt9_mag hw) (fm_i _)

/-- the value of X9_cellOf, path by path -/
def fX9_cellOf (S : Nat → Int32) (area : Int32) (group : Int32) (what : Int32) : Int32 :=
  bd1 (fX9_isCell area group) (fun (r_2 : Bool) => (if r_2 = true then bd1 (fX9_in what 0 4) (fun (r_4 : Bool) => (if r_4 = true then (if what = 0 then bd1 (fX9_ofCell S area group 0) (fun (r_6 : Int32) => r_6) else if what = 1 then bd1 (fX9_ofCell S area group 1) (fun (r_8 : Int32) => r_8) else if what = 2 then bd1 (fX9_wanted S area group) (fun (r_10 : Int32) => r_10) else if what = 3 then bd1 (fX9_ofCell S area group 2) (fun (r_12 : Int32) => r_12) else bd1 (fX9_ofCell S area group 1) (fun (r_14 : Int32) => (if r_14 = 0 then (-4) else bd1 (fX9_weight S area group) (fun (r_16 : UInt32) => bd1 (fJxf58ca_floatToIntBits_5c35a r_16) (fun (r_18 : Int32) => r_18))))) else (-1))) else (-1)))

set_option maxHeartbeats 4000000 in
set_option maxRecDepth 100000 in
/-- X9_cellOf -/
theorem mX9_cellOf (l : Launch) (D : va_G) (cI cC cS : ClassId) (sz : Nat) (o : Nat) (q1 : Nat) (q2 : Nat) (q3 : Nat) (q4 : Nat) (q5 : Nat) (S : Nat → Int32) (Bg : Nat → Int32) (Pa : Nat → Int32) (Tx : Nat → Int32) (Nu : Nat → Int32) (st : Int32) (ln : Int32) (ps : Int32) (fm : Bool) (rs : Int32) (area : Int32) (group : Int32) (what : Int32)  : Met l yX9_cellOf wsX9_cellOf ({ frames := 2, cells := 0, slots := 0, locals := 47 } : Jvm.Room) (va_Pc [.ref o, .int area, .int group, .int what] (wPre D (TY cI cC cS) [(o, .inr (7, [.ref q1, .ref q2, .ref q3, .int st, .ref q4, .int ln, .int ps, .int (bi fm), .int rs, .ref q5])), (q1, .inl (cI, 314, .inl S)), (q2, .inl (cI, 314, .inl Bg)), (q3, .inl (cI, 1256, .inl Pa)), (q4, .inl (cI, 80, .inl Tx)), (q5, .inl (cI, 5, .inl Nu))] sz X0)) (qI D (TY cI cC cS) (fun (r : Int32) (u : Int32) => fX9_cellOf S area group what = u ∧ r = u) (fun u => [(o, .inr (7, [.ref q1, .ref q2, .ref q3, .int st, .ref q4, .int ln, .int ps, .int (bi fm), .int rs, .ref q5])), (q1, .inl (cI, 314, .inl S)), (q2, .inl (cI, 314, .inl Bg)), (q3, .inl (cI, 1256, .inl Pa)), (q4, .inl (cI, 80, .inl Tx)), (q5, .inl (cI, 5, .inl Nu))]) (va_A [(o, .inr (7, [.ref q1, .ref q2, .ref q3, .int st, .ref q4, .int ln, .int ps, .int (bi fm), .int rs, .ref q5])), (q1, .inl (cI, 314, .inl S)), (q2, .inl (cI, 314, .inl Bg)), (q3, .inl (cI, 1256, .inl Pa)), (q4, .inl (cI, 80, .inl Tx)), (q5, .inl (cI, 5, .inl Nu))] sz)) 0 0 (va_A [(o, .inr (7, [.ref q1, .ref q2, .ref q3, .int st, .ref q4, .int ln, .int ps, .int (bi fm), .int rs, .ref q5])), (q1, .inl (cI, 314, .inl S)), (q2, .inl (cI, 314, .inl Bg)), (q3, .inl (cI, 1256, .inl Pa)), (q4, .inl (cI, 80, .inl Tx)), (q5, .inl (cI, 5, .inl Nu))] sz) := by
  refine mkM (y := yX9_cellOf) (wsl := wsX9_cellOf) (fun Fr => qI D (TY cI cC cS) (fun (r : Int32) (u : Int32) => fX9_cellOf S area group what = u ∧ r = u) (fun u => [(o, .inr (7, [.ref q1, .ref q2, .ref q3, .int st, .ref q4, .int ln, .int ps, .int (bi fm), .int rs, .ref q5])), (q1, .inl (cI, 314, .inl S)), (q2, .inl (cI, 314, .inl Bg)), (q3, .inl (cI, 1256, .inl Pa)), (q4, .inl (cI, 80, .inl Tx)), (q5, .inl (cI, 5, .inl Nu))]) Fr) (cc := cX9_cellOf) (maxL := 4) (ret := (some .int)) (own := RX9) (lv := [(0, .ref o), (1, .int area), (2, .int group), (3, .int what)]) (by decide) rfl rfl (Nat.le_of_ble_eq_true rfl) rfl ?_
  intro p e s m below meth c Fr ls hx hb hr hts hown hml hlk hin hP hK hD hS hA hAe hsz hX hl
  refine lv_iload_n hx hb dX9_cellOf_0 rfl (lv_at hl 1 rfl) ?_
  refine lv_iload_n hx hb dX9_cellOf_1 rfl (lv_at hl 2 rfl) ?_
  refine callSi (As := [.int area, .int group]) (rest := []) (mX9_isCell l D cI cC cS _ area group) ⟨hx, hb, hml, hown, hts⟩ (va_cwS 2 hts gX9_cellOf_X9_isCell rfl rfl rfl (by decide +kernel) ⟨Nat.le_of_ble_eq_true rfl, Nat.le_of_ble_eq_true rfl⟩) hP hK hD hS hA hl rfl rfl (Nat.le_of_ble_eq_true rfl) dX9_cellOf_2 ⟨Nat.zero_le _, Nat.zero_le _⟩ (fun u_ H locs hk2 hP hS => ?_)
  obtain ⟨r_2, e_r_2⟩ : ∃ z, z = u_ := ⟨_, rfl⟩
  subst e_r_2
  refine W.eq (g2 := F0 m 5 ls [.int (bi r_2)]) rfl ?_
  refine lv_if_eq (tgt := 17) hx hb dX9_cellOf_5 (by decide) (fun c5 => ?_) (fun c5 => ?_)
  · refine lv_iconst (v := (-1)) hx hb dX9_cellOf_17 (by decide) ?_
    exact endI hx hb hr hlk hP hK hD hS dX9_cellOf_18 (-1) rfl ⟨(bd1_e hk2).trans ((if_neg (bi_z c5)).trans rfl), rfl⟩
  · refine lv_iload_n hx hb dX9_cellOf_8 rfl (lv_at hl 3 rfl) ?_
    refine lv_iconst (v := 0) hx hb dX9_cellOf_9 (by decide) ?_
    refine lv_iconst (v := 4) hx hb dX9_cellOf_10 (by decide) ?_
    refine callSi (As := [.int what, .int 0, .int 4]) (rest := []) (mX9_in l D cI cC cS _ what 0 4) ⟨hx, hb, hml, hown, hts⟩ (va_cwS 3 hts gX9_cellOf_X9_in rfl rfl rfl (by decide +kernel) ⟨Nat.le_of_ble_eq_true rfl, Nat.le_of_ble_eq_true rfl⟩) hP hK hD hS hA hl rfl rfl (Nat.le_of_ble_eq_true rfl) dX9_cellOf_11 ⟨Nat.zero_le _, Nat.zero_le _⟩ (fun u_ H locs hk4 hP hS => ?_)
    obtain ⟨r_4, e_r_4⟩ : ∃ z, z = u_ := ⟨_, rfl⟩
    subst e_r_4
    refine W.eq (g2 := F0 m 14 ls [.int (bi r_4)]) rfl ?_
    refine lv_if_ne (tgt := 19) hx hb dX9_cellOf_14 (by decide) (fun c14 => ?_) (fun c14 => ?_)
    · refine lv_iload_n hx hb dX9_cellOf_19 rfl (lv_at hl 3 rfl) ?_
      by_cases c20_0 : what = 0
      · refine lv_tableIn (tgt := 52) hx hb dX9_cellOf_20 (by rw [c20_0]; decide) (by rw [c20_0]; decide) (by rw [c20_0]; rfl) (by decide) ?_
        refine lv_aload_n hx hb dX9_cellOf_52 rfl (lv_at hl 0 rfl) ?_
        refine lv_iload_n hx hb dX9_cellOf_53 rfl (lv_at hl 1 rfl) ?_
        refine lv_iload_n hx hb dX9_cellOf_54 rfl (lv_at hl 2 rfl) ?_
        refine lv_iconst (v := 0) hx hb dX9_cellOf_55 (by decide) ?_
        refine callVi (As := [.int area, .int group, .int 0]) (rest := []) (mX9_ofCell l D cI cC cS _ o q1 q2 q3 q4 q5 S Bg Pa Tx Nu st ln ps fm rs area group 0 ((isCell_of (hk2.trans (bi_o c5))).1) ((isCell_of (hk2.trans (bi_o c5))).2) (vp_d rfl)) ⟨hx, hb, hml, hown, hts⟩ (cwV 3 hts gX9_cellOf_X9_ofCell rfl rfl rfl (by decide +kernel) ⟨Nat.le_of_ble_eq_true rfl, Nat.le_of_ble_eq_true rfl⟩) X0_blind (fun _ _ _ => trivial) hP hK hD hS hA hl [0, 1, 2, 3, 4, 5] rfl rfl 0 7 rfl rfl rfl rfl rfl (Nat.le_of_ble_eq_true rfl) dX9_cellOf_56 ⟨Nat.zero_le _, Nat.zero_le _⟩ (fun _ => rfl) (fun u_ H locs hk6 hP hD hS => ?_)
        obtain ⟨r_6, e_r_6⟩ : ∃ z, z = u_ := ⟨_, rfl⟩
        subst e_r_6
        have hP : va_P D vwCl [(o, .inr (7, [.ref q1, .ref q2, .ref q3, .int st, .ref q4, .int ln, .int ps, .int (bi fm), .int rs, .ref q5])), (q1, .inl (cI, 314, .inl S)), (q2, .inl (cI, 314, .inl Bg)), (q3, .inl (cI, 1256, .inl Pa)), (q4, .inl (cI, 80, .inl Tx)), (q5, .inl (cI, 5, .inl Nu))] H := hP
        have hD : va_D Fr [(o, .inr (7, [.ref q1, .ref q2, .ref q3, .int st, .ref q4, .int ln, .int ps, .int (bi fm), .int rs, .ref q5])), (q1, .inl (cI, 314, .inl S)), (q2, .inl (cI, 314, .inl Bg)), (q3, .inl (cI, 1256, .inl Pa)), (q4, .inl (cI, 80, .inl Tx)), (q5, .inl (cI, 5, .inl Nu))] := hD
        refine W.eq (g2 := F0 m 59 ls [.int r_6]) rfl ?_
        exact endI hx hb hr hlk hP hK hD hS dX9_cellOf_59 r_6 rfl ⟨(bd1_e hk2).trans ((if_pos (bi_o c5)).trans ((bd1_e hk4).trans ((if_pos (bi_o c14)).trans ((if_pos c20_0).trans ((bd1_e hk6).trans rfl))))), rfl⟩
      by_cases c20_1 : what = 1
      · refine lv_tableIn (tgt := 60) hx hb dX9_cellOf_20 (by rw [c20_1]; decide) (by rw [c20_1]; decide) (by rw [c20_1]; rfl) (by decide) ?_
        refine lv_aload_n hx hb dX9_cellOf_60 rfl (lv_at hl 0 rfl) ?_
        refine lv_iload_n hx hb dX9_cellOf_61 rfl (lv_at hl 1 rfl) ?_
        refine lv_iload_n hx hb dX9_cellOf_62 rfl (lv_at hl 2 rfl) ?_
        refine lv_iconst (v := 1) hx hb dX9_cellOf_63 (by decide) ?_
        refine callVi (As := [.int area, .int group, .int 1]) (rest := []) (mX9_ofCell l D cI cC cS _ o q1 q2 q3 q4 q5 S Bg Pa Tx Nu st ln ps fm rs area group 1 ((isCell_of (hk2.trans (bi_o c5))).1) ((isCell_of (hk2.trans (bi_o c5))).2) (vp_d rfl)) ⟨hx, hb, hml, hown, hts⟩ (cwV 3 hts gX9_cellOf_X9_ofCell rfl rfl rfl (by decide +kernel) ⟨Nat.le_of_ble_eq_true rfl, Nat.le_of_ble_eq_true rfl⟩) X0_blind (fun _ _ _ => trivial) hP hK hD hS hA hl [0, 1, 2, 3, 4, 5] rfl rfl 0 7 rfl rfl rfl rfl rfl (Nat.le_of_ble_eq_true rfl) dX9_cellOf_64 ⟨Nat.zero_le _, Nat.zero_le _⟩ (fun _ => rfl) (fun u_ H locs hk8 hP hD hS => ?_)
        obtain ⟨r_8, e_r_8⟩ : ∃ z, z = u_ := ⟨_, rfl⟩
        subst e_r_8
        have hP : va_P D vwCl [(o, .inr (7, [.ref q1, .ref q2, .ref q3, .int st, .ref q4, .int ln, .int ps, .int (bi fm), .int rs, .ref q5])), (q1, .inl (cI, 314, .inl S)), (q2, .inl (cI, 314, .inl Bg)), (q3, .inl (cI, 1256, .inl Pa)), (q4, .inl (cI, 80, .inl Tx)), (q5, .inl (cI, 5, .inl Nu))] H := hP
        have hD : va_D Fr [(o, .inr (7, [.ref q1, .ref q2, .ref q3, .int st, .ref q4, .int ln, .int ps, .int (bi fm), .int rs, .ref q5])), (q1, .inl (cI, 314, .inl S)), (q2, .inl (cI, 314, .inl Bg)), (q3, .inl (cI, 1256, .inl Pa)), (q4, .inl (cI, 80, .inl Tx)), (q5, .inl (cI, 5, .inl Nu))] := hD
        refine W.eq (g2 := F0 m 67 ls [.int r_8]) rfl ?_
        exact endI hx hb hr hlk hP hK hD hS dX9_cellOf_67 r_8 rfl ⟨(bd1_e hk2).trans ((if_pos (bi_o c5)).trans ((bd1_e hk4).trans ((if_pos (bi_o c14)).trans ((if_neg c20_0).trans ((if_pos c20_1).trans ((bd1_e hk8).trans rfl)))))), rfl⟩
      by_cases c20_2 : what = 2
      · refine lv_tableIn (tgt := 68) hx hb dX9_cellOf_20 (by rw [c20_2]; decide) (by rw [c20_2]; decide) (by rw [c20_2]; rfl) (by decide) ?_
        refine lv_aload_n hx hb dX9_cellOf_68 rfl (lv_at hl 0 rfl) ?_
        refine lv_iload_n hx hb dX9_cellOf_69 rfl (lv_at hl 1 rfl) ?_
        refine lv_iload_n hx hb dX9_cellOf_70 rfl (lv_at hl 2 rfl) ?_
        refine callVi (As := [.int area, .int group]) (rest := []) (mX9_wanted l D cI cC cS _ o q1 q2 q3 q4 q5 S Bg Pa Tx Nu st ln ps fm rs area group ((isCell_of (hk2.trans (bi_o c5))).1) ((isCell_of (hk2.trans (bi_o c5))).2)) ⟨hx, hb, hml, hown, hts⟩ (cwV 2 hts gX9_cellOf_X9_wanted rfl rfl rfl (by decide +kernel) ⟨Nat.le_of_ble_eq_true rfl, Nat.le_of_ble_eq_true rfl⟩) X0_blind (fun _ _ _ => trivial) hP hK hD hS hA hl [0, 1, 2, 3, 4, 5] rfl rfl 0 7 rfl rfl rfl rfl rfl (Nat.le_of_ble_eq_true rfl) dX9_cellOf_71 ⟨Nat.zero_le _, Nat.zero_le _⟩ (fun _ => rfl) (fun u_ H locs hk10 hP hD hS => ?_)
        obtain ⟨r_10, e_r_10⟩ : ∃ z, z = u_ := ⟨_, rfl⟩
        subst e_r_10
        have hP : va_P D vwCl [(o, .inr (7, [.ref q1, .ref q2, .ref q3, .int st, .ref q4, .int ln, .int ps, .int (bi fm), .int rs, .ref q5])), (q1, .inl (cI, 314, .inl S)), (q2, .inl (cI, 314, .inl Bg)), (q3, .inl (cI, 1256, .inl Pa)), (q4, .inl (cI, 80, .inl Tx)), (q5, .inl (cI, 5, .inl Nu))] H := hP
        have hD : va_D Fr [(o, .inr (7, [.ref q1, .ref q2, .ref q3, .int st, .ref q4, .int ln, .int ps, .int (bi fm), .int rs, .ref q5])), (q1, .inl (cI, 314, .inl S)), (q2, .inl (cI, 314, .inl Bg)), (q3, .inl (cI, 1256, .inl Pa)), (q4, .inl (cI, 80, .inl Tx)), (q5, .inl (cI, 5, .inl Nu))] := hD
        refine W.eq (g2 := F0 m 74 ls [.int r_10]) rfl ?_
        exact endI hx hb hr hlk hP hK hD hS dX9_cellOf_74 r_10 rfl ⟨(bd1_e hk2).trans ((if_pos (bi_o c5)).trans ((bd1_e hk4).trans ((if_pos (bi_o c14)).trans ((if_neg c20_0).trans ((if_neg c20_1).trans ((if_pos c20_2).trans ((bd1_e hk10).trans rfl))))))), rfl⟩
      by_cases c20_3 : what = 3
      · refine lv_tableIn (tgt := 75) hx hb dX9_cellOf_20 (by rw [c20_3]; decide) (by rw [c20_3]; decide) (by rw [c20_3]; rfl) (by decide) ?_
        refine lv_aload_n hx hb dX9_cellOf_75 rfl (lv_at hl 0 rfl) ?_
        refine lv_iload_n hx hb dX9_cellOf_76 rfl (lv_at hl 1 rfl) ?_
        refine lv_iload_n hx hb dX9_cellOf_77 rfl (lv_at hl 2 rfl) ?_
        refine lv_iconst (v := 2) hx hb dX9_cellOf_78 (by decide) ?_
        refine callVi (As := [.int area, .int group, .int 2]) (rest := []) (mX9_ofCell l D cI cC cS _ o q1 q2 q3 q4 q5 S Bg Pa Tx Nu st ln ps fm rs area group 2 ((isCell_of (hk2.trans (bi_o c5))).1) ((isCell_of (hk2.trans (bi_o c5))).2) (vp_d rfl)) ⟨hx, hb, hml, hown, hts⟩ (cwV 3 hts gX9_cellOf_X9_ofCell rfl rfl rfl (by decide +kernel) ⟨Nat.le_of_ble_eq_true rfl, Nat.le_of_ble_eq_true rfl⟩) X0_blind (fun _ _ _ => trivial) hP hK hD hS hA hl [0, 1, 2, 3, 4, 5] rfl rfl 0 7 rfl rfl rfl rfl rfl (Nat.le_of_ble_eq_true rfl) dX9_cellOf_79 ⟨Nat.zero_le _, Nat.zero_le _⟩ (fun _ => rfl) (fun u_ H locs hk12 hP hD hS => ?_)
        obtain ⟨r_12, e_r_12⟩ : ∃ z, z = u_ := ⟨_, rfl⟩
        subst e_r_12
        have hP : va_P D vwCl [(o, .inr (7, [.ref q1, .ref q2, .ref q3, .int st, .ref q4, .int ln, .int ps, .int (bi fm), .int rs, .ref q5])), (q1, .inl (cI, 314, .inl S)), (q2, .inl (cI, 314, .inl Bg)), (q3, .inl (cI, 1256, .inl Pa)), (q4, .inl (cI, 80, .inl Tx)), (q5, .inl (cI, 5, .inl Nu))] H := hP
        have hD : va_D Fr [(o, .inr (7, [.ref q1, .ref q2, .ref q3, .int st, .ref q4, .int ln, .int ps, .int (bi fm), .int rs, .ref q5])), (q1, .inl (cI, 314, .inl S)), (q2, .inl (cI, 314, .inl Bg)), (q3, .inl (cI, 1256, .inl Pa)), (q4, .inl (cI, 80, .inl Tx)), (q5, .inl (cI, 5, .inl Nu))] := hD
        refine W.eq (g2 := F0 m 82 ls [.int r_12]) rfl ?_
        exact endI hx hb hr hlk hP hK hD hS dX9_cellOf_82 r_12 rfl ⟨(bd1_e hk2).trans ((if_pos (bi_o c5)).trans ((bd1_e hk4).trans ((if_pos (bi_o c14)).trans ((if_neg c20_0).trans ((if_neg c20_1).trans ((if_neg c20_2).trans ((if_pos c20_3).trans ((bd1_e hk12).trans rfl)))))))), rfl⟩
      refine lv_tableOut (tgt := 83) hx hb dX9_cellOf_20 (tab_out (lo := 0) (hi := 3) (by decide) (fun k kk1 kk2 => ?_)) (by decide) ?_
      · rcases (show k = 0 ∨ k = 1 ∨ k = 2 ∨ k = 3 by omega) with rfl | rfl | rfl | rfl
        · exact ne_ti c20_0 (by decide)
        · exact ne_ti c20_1 (by decide)
        · exact ne_ti c20_2 (by decide)
        · exact ne_ti c20_3 (by decide)
      refine lv_aload_n hx hb dX9_cellOf_83 rfl (lv_at hl 0 rfl) ?_
      refine lv_iload_n hx hb dX9_cellOf_84 rfl (lv_at hl 1 rfl) ?_
      refine lv_iload_n hx hb dX9_cellOf_85 rfl (lv_at hl 2 rfl) ?_
      refine lv_iconst (v := 1) hx hb dX9_cellOf_86 (by decide) ?_
      refine callVi (As := [.int area, .int group, .int 1]) (rest := []) (mX9_ofCell l D cI cC cS _ o q1 q2 q3 q4 q5 S Bg Pa Tx Nu st ln ps fm rs area group 1 ((isCell_of (hk2.trans (bi_o c5))).1) ((isCell_of (hk2.trans (bi_o c5))).2) (vp_d rfl)) ⟨hx, hb, hml, hown, hts⟩ (cwV 3 hts gX9_cellOf_X9_ofCell rfl rfl rfl (by decide +kernel) ⟨Nat.le_of_ble_eq_true rfl, Nat.le_of_ble_eq_true rfl⟩) X0_blind (fun _ _ _ => trivial) hP hK hD hS hA hl [0, 1, 2, 3, 4, 5] rfl rfl 0 7 rfl rfl rfl rfl rfl (Nat.le_of_ble_eq_true rfl) dX9_cellOf_87 ⟨Nat.zero_le _, Nat.zero_le _⟩ (fun _ => rfl) (fun u_ H locs hk14 hP hD hS => ?_)
      obtain ⟨r_14, e_r_14⟩ : ∃ z, z = u_ := ⟨_, rfl⟩
      subst e_r_14
      have hP : va_P D vwCl [(o, .inr (7, [.ref q1, .ref q2, .ref q3, .int st, .ref q4, .int ln, .int ps, .int (bi fm), .int rs, .ref q5])), (q1, .inl (cI, 314, .inl S)), (q2, .inl (cI, 314, .inl Bg)), (q3, .inl (cI, 1256, .inl Pa)), (q4, .inl (cI, 80, .inl Tx)), (q5, .inl (cI, 5, .inl Nu))] H := hP
      have hD : va_D Fr [(o, .inr (7, [.ref q1, .ref q2, .ref q3, .int st, .ref q4, .int ln, .int ps, .int (bi fm), .int rs, .ref q5])), (q1, .inl (cI, 314, .inl S)), (q2, .inl (cI, 314, .inl Bg)), (q3, .inl (cI, 1256, .inl Pa)), (q4, .inl (cI, 80, .inl Tx)), (q5, .inl (cI, 5, .inl Nu))] := hD
      refine W.eq (g2 := F0 m 90 ls [.int r_14]) rfl ?_
      refine lv_if_ne (tgt := 98) hx hb dX9_cellOf_90 (by decide) (fun c90 => ?_) (fun c90 => ?_)
      · refine lv_aload_n hx hb dX9_cellOf_98 rfl (lv_at hl 0 rfl) ?_
        refine lv_iload_n hx hb dX9_cellOf_99 rfl (lv_at hl 1 rfl) ?_
        refine lv_iload_n hx hb dX9_cellOf_100 rfl (lv_at hl 2 rfl) ?_
        refine callVf (As := [.int area, .int group]) (rest := []) (mX9_weight l D cI cC cS _ o q1 q2 q3 q4 q5 S Bg Pa Tx Nu st ln ps fm rs area group ((isCell_of (hk2.trans (bi_o c5))).1) ((isCell_of (hk2.trans (bi_o c5))).2) (hk14.symm ▸ c90)) ⟨hx, hb, hml, hown, hts⟩ (cwV 2 hts gX9_cellOf_X9_weight rfl rfl rfl (by decide +kernel) ⟨Nat.le_of_ble_eq_true rfl, Nat.le_of_ble_eq_true rfl⟩) X0_blind (fun _ _ _ => trivial) hP hK hD hS hA hl [0, 1, 2, 3, 4, 5] rfl rfl 0 7 rfl rfl rfl rfl rfl (Nat.le_of_ble_eq_true rfl) dX9_cellOf_101 ⟨Nat.zero_le _, Nat.zero_le _⟩ (fun _ => rfl) (fun u_ H locs hk16 hP hD hS => ?_)
        obtain ⟨r_16, e_r_16⟩ : ∃ z, z = u_ := ⟨_, rfl⟩
        subst e_r_16
        have hP : va_P D vwCl [(o, .inr (7, [.ref q1, .ref q2, .ref q3, .int st, .ref q4, .int ln, .int ps, .int (bi fm), .int rs, .ref q5])), (q1, .inl (cI, 314, .inl S)), (q2, .inl (cI, 314, .inl Bg)), (q3, .inl (cI, 1256, .inl Pa)), (q4, .inl (cI, 80, .inl Tx)), (q5, .inl (cI, 5, .inl Nu))] H := hP
        have hD : va_D Fr [(o, .inr (7, [.ref q1, .ref q2, .ref q3, .int st, .ref q4, .int ln, .int ps, .int (bi fm), .int rs, .ref q5])), (q1, .inl (cI, 314, .inl S)), (q2, .inl (cI, 314, .inl Bg)), (q3, .inl (cI, 1256, .inl Pa)), (q4, .inl (cI, 80, .inl Tx)), (q5, .inl (cI, 5, .inl Nu))] := hD
        refine W.eq (g2 := F0 m 104 ls [.float r_16]) rfl ?_
        refine callSi (As := [.float r_16]) (rest := []) (mJxf58ca_floatToIntBits_5c35a l D cI cC cS _ r_16 (fl_self (fm_nn (hk16 ▸ wt9_mag (hk14.symm ▸ c90)) (by decide)))) ⟨hx, hb, hml, hown, hts⟩ (va_cwS 1 hts gX9_cellOf_Jxf58ca_floatToIntBits_5c35a rfl rfl rfl (by decide +kernel) ⟨Nat.le_of_ble_eq_true rfl, Nat.le_of_ble_eq_true rfl⟩) hP hK hD hS hA hl rfl rfl (Nat.le_of_ble_eq_true rfl) dX9_cellOf_104 ⟨Nat.zero_le _, Nat.zero_le _⟩ (fun u_ H locs hk18 hP hS => ?_)
        obtain ⟨r_18, e_r_18⟩ : ∃ z, z = u_ := ⟨_, rfl⟩
        subst e_r_18
        refine W.eq (g2 := F0 m 107 ls [.int r_18]) rfl ?_
        exact endI hx hb hr hlk hP hK hD hS dX9_cellOf_107 r_18 rfl ⟨(bd1_e hk2).trans ((if_pos (bi_o c5)).trans ((bd1_e hk4).trans ((if_pos (bi_o c14)).trans ((if_neg c20_0).trans ((if_neg c20_1).trans ((if_neg c20_2).trans ((if_neg c20_3).trans ((bd1_e hk14).trans ((if_neg c90).trans ((bd1_e hk16).trans ((bd1_e hk18).trans rfl))))))))))), rfl⟩
      · refine lv_bipush (v := (-4)) hx hb dX9_cellOf_93 (by decide) ?_
        refine lv_goto (tgt := 107) hx hb dX9_cellOf_95 (by decide) ?_
        exact endI hx hb hr hlk hP hK hD hS dX9_cellOf_107 (-4) rfl ⟨(bd1_e hk2).trans ((if_pos (bi_o c5)).trans ((bd1_e hk4).trans ((if_pos (bi_o c14)).trans ((if_neg c20_0).trans ((if_neg c20_1).trans ((if_neg c20_2).trans ((if_neg c20_3).trans ((bd1_e hk14).trans ((if_pos c90).trans rfl))))))))), rfl⟩
    · refine lv_iconst (v := (-1)) hx hb dX9_cellOf_17 (by decide) ?_
      exact endI hx hb hr hlk hP hK hD hS dX9_cellOf_18 (-1) rfl ⟨(bd1_e hk2).trans ((if_pos (bi_o c5)).trans ((bd1_e hk4).trans ((if_neg (bi_z c14)).trans rfl))), rfl⟩

/-- the loop of X9_rateBits at 4 -/
def fX9_rateBits_4 (S : Nat → Int32) : Nat → Int32 → Int32 → Int32
  | 0, _, _ => default
  | fu + 1, x1, x2 =>
    (if S 0 ≤ x2 then (if x1 = 0 then (-4) else bd1 (fJxf58ca_floatToIntBits_5c35a (FP.fdiv (FP.i2f (S 5)) (FP.i2f x1))) (fun (r_2 : Int32) => r_2)) else bd1 (fX9_isOpen S x2) (fun (r_4 : Bool) => (if r_4 = true then bd1 (x1 + 0) (fun (y_6 : Int32) => fX9_rateBits_4 S fu y_6 (x2 + 1)) else bd1 (x1 + 1) (fun (y_5 : Int32) => fX9_rateBits_4 S fu y_5 (x2 + 1)))))
theorem fX9_rateBits_4_s (S : Nat → Int32) (fu : Nat) (x1 : Int32) (x2 : Int32) : fX9_rateBits_4 S (fu + 1) x1 x2 =
    (if S 0 ≤ x2 then (if x1 = 0 then (-4) else bd1 (fJxf58ca_floatToIntBits_5c35a (FP.fdiv (FP.i2f (S 5)) (FP.i2f x1))) (fun (r_2 : Int32) => r_2)) else bd1 (fX9_isOpen S x2) (fun (r_4 : Bool) => (if r_4 = true then bd1 (x1 + 0) (fun (y_6 : Int32) => fX9_rateBits_4 S fu y_6 (x2 + 1)) else bd1 (x1 + 1) (fun (y_5 : Int32) => fX9_rateBits_4 S fu y_5 (x2 + 1))))) := rfl

/-- the value of X9_rateBits, path by path -/
def fX9_rateBits (S : Nat → Int32) : Int32 :=
  fX9_rateBits_4 S (((S 0).toInt - (0 : Int32).toInt).toNat + 1) 0 0

set_option maxHeartbeats 4000000 in
set_option maxRecDepth 100000 in
/-- X9_rateBits -/
theorem mX9_rateBits (l : Launch) (D : va_G) (cI cC cS : ClassId) (sz : Nat) (o : Nat) (q1 : Nat) (q2 : Nat) (q3 : Nat) (q4 : Nat) (q5 : Nat) (S : Nat → Int32) (Bg : Nat → Int32) (Pa : Nat → Int32) (Tx : Nat → Int32) (Nu : Nat → Int32) (st : Int32) (ln : Int32) (ps : Int32) (fm : Bool) (rs : Int32) (hm : vp_in (S 0) 25) : Met l yX9_rateBits wsX9_rateBits ({ frames := 2, cells := 0, slots := 0, locals := 43 } : Jvm.Room) (va_Pc [.ref o] (wPre D (TY cI cC cS) [(o, .inr (7, [.ref q1, .ref q2, .ref q3, .int st, .ref q4, .int ln, .int ps, .int (bi fm), .int rs, .ref q5])), (q1, .inl (cI, 314, .inl S)), (q2, .inl (cI, 314, .inl Bg)), (q3, .inl (cI, 1256, .inl Pa)), (q4, .inl (cI, 80, .inl Tx)), (q5, .inl (cI, 5, .inl Nu))] sz X0)) (qI D (TY cI cC cS) (fun (r : Int32) (u : Int32) => fX9_rateBits S = u ∧ r = u) (fun u => [(o, .inr (7, [.ref q1, .ref q2, .ref q3, .int st, .ref q4, .int ln, .int ps, .int (bi fm), .int rs, .ref q5])), (q1, .inl (cI, 314, .inl S)), (q2, .inl (cI, 314, .inl Bg)), (q3, .inl (cI, 1256, .inl Pa)), (q4, .inl (cI, 80, .inl Tx)), (q5, .inl (cI, 5, .inl Nu))]) (va_A [(o, .inr (7, [.ref q1, .ref q2, .ref q3, .int st, .ref q4, .int ln, .int ps, .int (bi fm), .int rs, .ref q5])), (q1, .inl (cI, 314, .inl S)), (q2, .inl (cI, 314, .inl Bg)), (q3, .inl (cI, 1256, .inl Pa)), (q4, .inl (cI, 80, .inl Tx)), (q5, .inl (cI, 5, .inl Nu))] sz)) 0 0 (va_A [(o, .inr (7, [.ref q1, .ref q2, .ref q3, .int st, .ref q4, .int ln, .int ps, .int (bi fm), .int rs, .ref q5])), (q1, .inl (cI, 314, .inl S)), (q2, .inl (cI, 314, .inl Bg)), (q3, .inl (cI, 1256, .inl Pa)), (q4, .inl (cI, 80, .inl Tx)), (q5, .inl (cI, 5, .inl Nu))] sz) := by
  refine mkM (y := yX9_rateBits) (wsl := wsX9_rateBits) (fun Fr => qI D (TY cI cC cS) (fun (r : Int32) (u : Int32) => fX9_rateBits S = u ∧ r = u) (fun u => [(o, .inr (7, [.ref q1, .ref q2, .ref q3, .int st, .ref q4, .int ln, .int ps, .int (bi fm), .int rs, .ref q5])), (q1, .inl (cI, 314, .inl S)), (q2, .inl (cI, 314, .inl Bg)), (q3, .inl (cI, 1256, .inl Pa)), (q4, .inl (cI, 80, .inl Tx)), (q5, .inl (cI, 5, .inl Nu))]) Fr) (cc := cX9_rateBits) (maxL := 4) (ret := (some .int)) (own := RX9) (lv := [(0, .ref o)]) (by decide) rfl rfl (Nat.le_of_ble_eq_true rfl) rfl ?_
  intro p e s m below meth c Fr ls hx hb hr hts hown hml hlk hin hP hK hD hS hA hAe hsz hX hl
  have w_1 := hts (.fieldLink RX9 7 "FieldQuotasModel" "s" "[I") (List.mem_of_getElem? (i := 1) rfl)
  have w_2 := sub_r (big := wsX9_rateBits) (u_ws RX9 TX9 10) [23, 24, 25, 26, 27, 28, 29, 30, 31, 32] rfl
  refine lv_iconst (v := 0) hx hb dX9_rateBits_0 (by decide) ?_
  refine lv_istore_n (lv' := [(1, .int 0), (0, .ref o)]) hx hb dX9_rateBits_1 rfl hl (by decide) rfl (fun ls hl => ?_)
  refine lv_iconst (v := 0) hx hb dX9_rateBits_2 (by decide) ?_
  refine lv_istore_n (lv' := [(2, .int 0), (1, .int 0), (0, .ref o)]) hx hb dX9_rateBits_3 rfl hl (by decide) rfl (fun ls hl => ?_)
  have K_4 : ∀ (fu : Nat) (x1 : Int32) (x2 : Int32) (H : Heap) (locs : List Loc) (ls : Array Slot), va_P D vwCl [(o, .inr (7, [.ref q1, .ref q2, .ref q3, .int st, .ref q4, .int ln, .int ps, .int (bi fm), .int rs, .ref q5])), (q1, .inl (cI, 314, .inl S)), (q2, .inl (cI, 314, .inl Bg)), (q3, .inl (cI, 1256, .inl Pa)), (q4, .inl (cI, 80, .inl Tx)), (q5, .inl (cI, 5, .inl Nu))] H → va_D Fr [(o, .inr (7, [.ref q1, .ref q2, .ref q3, .int st, .ref q4, .int ln, .int ps, .int (bi fm), .int rs, .ref q5])), (q1, .inl (cI, 314, .inl S)), (q2, .inl (cI, 314, .inl Bg)), (q3, .inl (cI, 1256, .inl Pa)), (q4, .inl (cI, 80, .inl Tx)), (q5, .inl (cI, 5, .inl Nu))] → va_S Fr s.heap H locs → lv_has ls 4 [(0, .ref o), (1, .int x1), (2, .int x2)] → (¬ x2 < 0) → ((S 0).toInt - x2.toInt).toNat < fu → fX9_rateBits S = fX9_rateBits_4 S fu x1 x2 → W p l e (headSpec wsX9_rateBits ({ frames := 2, cells := 0, slots := 0, locals := 43 } : Jvm.Room)).room s m ([.ref o] : List Value).toArray below meth c H locs 0 0 (MQ below (qI D (TY cI cC cS) (fun (r : Int32) (u : Int32) => fX9_rateBits S = u ∧ r = u) (fun u => [(o, .inr (7, [.ref q1, .ref q2, .ref q3, .int st, .ref q4, .int ln, .int ps, .int (bi fm), .int rs, .ref q5])), (q1, .inl (cI, 314, .inl S)), (q2, .inl (cI, 314, .inl Bg)), (q3, .inl (cI, 1256, .inl Pa)), (q4, .inl (cI, 80, .inl Tx)), (q5, .inl (cI, 5, .inl Nu))]) Fr) ([.ref o] : List Value).toArray s 0 0 Fr) (F0 m 4 ls []) := by
    intro fu
    induction fu with
    | zero => intros; exact absurd (by assumption) (Nat.not_lt_zero _)
    | succ fu ih_4 =>
      intro x1 x2 H locs ls hP hD hS hl hi0 hm_4 E_4
      refine lv_iload_n hx hb dX9_rateBits_4 rfl (lv_at hl 2 rfl) ?_
      refine lv_aload_n hx hb dX9_rateBits_5 rfl (lv_at hl 0 rfl) ?_
      refine va_get (D := D) (ci := 7) (C := RX9) (T := TX9) (N := 10) hx hb hts w_2 hown hK hP 0 rfl rfl 0 (by decide) w_1 (fun _ h9 => h9) rfl dX9_rateBits_6 ?_
      refine lv_iconst (v := 0) hx hb dX9_rateBits_9 (by decide) ?_
      refine va_iald hx hb hK hP 1 0 rfl rfl (vp_d rfl) dX9_rateBits_10 ?_
      refine W.eq (g2 := F0 m 11 ls [.int (S 0), .int x2]) rfl ?_
      refine lv_icmp_ge (tgt := 36) hx hb dX9_rateBits_11 (by decide) (fun c11 => ?_) (fun c11 => ?_)
      · refine lv_aload_n hx hb dX9_rateBits_36 rfl (lv_at hl 0 rfl) ?_
        refine va_get (D := D) (ci := 7) (C := RX9) (T := TX9) (N := 10) hx hb hts w_2 hown hK hP 0 rfl rfl 0 (by decide) w_1 (fun _ h9 => h9) rfl dX9_rateBits_37 ?_
        refine lv_iconst (v := 5) hx hb dX9_rateBits_40 (by decide) ?_
        refine va_iald hx hb hK hP 1 0 rfl rfl (vp_d rfl) dX9_rateBits_41 ?_
        refine W.eq (g2 := F0 m 42 ls [.int (S 5)]) rfl ?_
        refine lv_i2f hx hb dX9_rateBits_42 ?_
        refine lv_fstore_n (lv' := [(2, .float (FP.i2f (S 5))), (0, .ref o), (1, .int x1)]) hx hb dX9_rateBits_43 rfl hl (by decide) rfl (fun ls hl => ?_)
        refine lv_iload_n hx hb dX9_rateBits_44 rfl (lv_at hl 2 rfl) ?_
        refine lv_i2f hx hb dX9_rateBits_45 ?_
        refine lv_fstore_n (lv' := [(3, .float (FP.i2f x1)), (2, .float (FP.i2f (S 5))), (0, .ref o), (1, .int x1)]) hx hb dX9_rateBits_46 rfl hl (by decide) rfl (fun ls hl => ?_)
        refine lv_iload_n hx hb dX9_rateBits_47 rfl (lv_at hl 3 rfl) ?_
        refine lv_if_ne (tgt := 56) hx hb dX9_rateBits_48 (by decide) (fun c48 => ?_) (fun c48 => ?_)
        · refine lv_fload_n hx hb dX9_rateBits_56 rfl (lv_at hl 1 rfl) ?_
          refine lv_fload_n hx hb dX9_rateBits_57 rfl (lv_at hl 0 rfl) ?_
          refine lv_fdiv hx hb dX9_rateBits_58 (fl_div _ (fl_nz c48)) ?_
          refine callSi (As := [.float (FP.fdiv (FP.i2f (S 5)) (FP.i2f x1))]) (rest := []) (mJxf58ca_floatToIntBits_5c35a l D cI cC cS _ (FP.fdiv (FP.i2f (S 5)) (FP.i2f x1)) (fl_self (fl_nndiv _ (fl_nz c48)))) ⟨hx, hb, hml, hown, hts⟩ (va_cwS 1 hts gX9_rateBits_Jxf58ca_floatToIntBits_5c35a rfl rfl rfl (by decide +kernel) ⟨Nat.le_of_ble_eq_true rfl, Nat.le_of_ble_eq_true rfl⟩) hP hK hD hS hA hl rfl rfl (Nat.le_of_ble_eq_true rfl) dX9_rateBits_59 ⟨Nat.zero_le _, Nat.zero_le _⟩ (fun u_ H locs hk2 hP hS => ?_)
          obtain ⟨r_2, e_r_2⟩ : ∃ z, z = u_ := ⟨_, rfl⟩
          subst e_r_2
          refine W.eq (g2 := F0 m 62 ls [.int r_2]) rfl ?_
          exact endI hx hb hr hlk hP hK hD hS dX9_rateBits_62 r_2 rfl ⟨(E_4).trans ((fX9_rateBits_4_s S fu x1 x2).trans ((if_pos c11).trans ((if_neg c48).trans ((bd1_e hk2).trans rfl)))), rfl⟩
        · refine lv_bipush (v := (-4)) hx hb dX9_rateBits_51 (by decide) ?_
          refine lv_goto (tgt := 62) hx hb dX9_rateBits_53 (by decide) ?_
          exact endI hx hb hr hlk hP hK hD hS dX9_rateBits_62 (-4) rfl ⟨(E_4).trans ((fX9_rateBits_4_s S fu x1 x2).trans ((if_pos c11).trans ((if_pos c48).trans rfl))), rfl⟩
      · refine lv_iload_n hx hb dX9_rateBits_14 rfl (lv_at hl 1 rfl) ?_
        refine lv_aload_n hx hb dX9_rateBits_15 rfl (lv_at hl 0 rfl) ?_
        refine lv_iload_n hx hb dX9_rateBits_16 rfl (lv_at hl 2 rfl) ?_
        refine callVi (As := [.int x2]) (rest := [.int x1]) (mX9_isOpen l D cI cC cS _ o q1 q2 q3 q4 q5 S Bg Pa Tx Nu st ln ps fm rs x2 (vp_k hi0 c11 hm)) ⟨hx, hb, hml, hown, hts⟩ (cwV 1 hts gX9_rateBits_X9_isOpen rfl rfl rfl (by decide +kernel) ⟨Nat.le_of_ble_eq_true rfl, Nat.le_of_ble_eq_true rfl⟩) X0_blind (fun _ _ _ => trivial) hP hK hD hS hA hl [0, 1, 2, 3, 4, 5] rfl rfl 0 7 rfl rfl rfl rfl rfl (Nat.le_of_ble_eq_true rfl) dX9_rateBits_17 ⟨Nat.zero_le _, Nat.zero_le _⟩ (fun _ => rfl) (fun u_ H locs hk4 hP hD hS => ?_)
        obtain ⟨r_4, e_r_4⟩ : ∃ z, z = u_ := ⟨_, rfl⟩
        subst e_r_4
        have hP : va_P D vwCl [(o, .inr (7, [.ref q1, .ref q2, .ref q3, .int st, .ref q4, .int ln, .int ps, .int (bi fm), .int rs, .ref q5])), (q1, .inl (cI, 314, .inl S)), (q2, .inl (cI, 314, .inl Bg)), (q3, .inl (cI, 1256, .inl Pa)), (q4, .inl (cI, 80, .inl Tx)), (q5, .inl (cI, 5, .inl Nu))] H := hP
        have hD : va_D Fr [(o, .inr (7, [.ref q1, .ref q2, .ref q3, .int st, .ref q4, .int ln, .int ps, .int (bi fm), .int rs, .ref q5])), (q1, .inl (cI, 314, .inl S)), (q2, .inl (cI, 314, .inl Bg)), (q3, .inl (cI, 1256, .inl Pa)), (q4, .inl (cI, 80, .inl Tx)), (q5, .inl (cI, 5, .inl Nu))] := hD
        refine W.eq (g2 := F0 m 20 ls [.int (bi r_4), .int x1]) rfl ?_
        refine lv_if_eq (tgt := 27) hx hb dX9_rateBits_20 (by decide) (fun c20 => ?_) (fun c20 => ?_)
        · refine lv_iconst (v := 1) hx hb dX9_rateBits_27 (by decide) ?_
          refine lv_iadd hx hb dX9_rateBits_28 ?_
          refine lv_topi (fun y_5 ey_5 => ?_)
          refine lv_istore_n (lv' := [(1, .int y_5), (0, .ref o), (2, .int x2)]) hx hb dX9_rateBits_29 rfl hl (by decide) rfl (fun ls hl => ?_)
          refine lv_iinc (v := x2 + 1) (lv' := [(2, .int (x2 + 1)), (1, .int y_5), (0, .ref o)]) hx hb dX9_rateBits_30 hl (k := 2) rfl (by rfl) (by decide) rfl (fun ls hl => ?_)
          refine lv_goto (tgt := 4) hx hb dX9_rateBits_33 (by decide) ?_
          exact ih_4 y_5 (x2 + 1) _ _ ls hP hD hS (lv_sub hl [2, 1, 0] rfl) (up_k hi0 c11) (Nat.lt_of_lt_of_le (lp_dec c11) (Nat.le_of_lt_succ hm_4)) ((E_4).trans ((fX9_rateBits_4_s S fu x1 x2).trans ((if_neg c11).trans ((bd1_e hk4).trans ((if_neg (bi_z c20)).trans ((bd1_n ey_5).trans rfl))))))
        · refine lv_iconst (v := 0) hx hb dX9_rateBits_23 (by decide) ?_
          refine lv_goto (tgt := 28) hx hb dX9_rateBits_24 (by decide) ?_
          refine lv_iadd hx hb dX9_rateBits_28 ?_
          refine lv_topi (fun y_6 ey_6 => ?_)
          refine lv_istore_n (lv' := [(1, .int y_6), (0, .ref o), (2, .int x2)]) hx hb dX9_rateBits_29 rfl hl (by decide) rfl (fun ls hl => ?_)
          refine lv_iinc (v := x2 + 1) (lv' := [(2, .int (x2 + 1)), (1, .int y_6), (0, .ref o)]) hx hb dX9_rateBits_30 hl (k := 2) rfl (by rfl) (by decide) rfl (fun ls hl => ?_)
          refine lv_goto (tgt := 4) hx hb dX9_rateBits_33 (by decide) ?_
          exact ih_4 y_6 (x2 + 1) _ _ ls hP hD hS (lv_sub hl [2, 1, 0] rfl) (up_k hi0 c11) (Nat.lt_of_lt_of_le (lp_dec c11) (Nat.le_of_lt_succ hm_4)) ((E_4).trans ((fX9_rateBits_4_s S fu x1 x2).trans ((if_neg c11).trans ((bd1_e hk4).trans ((if_pos (bi_o c20)).trans ((bd1_n ey_6).trans rfl))))))
  exact K_4 (((S 0).toInt - (0 : Int32).toInt).toNat + 1) 0 0 _ _ ls hP hD hS (lv_sub hl [2, 1, 0] rfl) (by decide) (Nat.lt_succ_self _) rfl

/-- the loop of X9_partBits at 18 -/
def fX9_partBits_18 (S : Nat → Int32) (group : Int32) : Nat → UInt32 → UInt32 → Int32 → Int32
  | 0, _, _, _ => default
  | fu + 1, x2, x3, x4 =>
    (if (12 : Int32) ≤ x4 then (if Op.cmpValue (FP.fcmp x3 FP.fconst0) .l = 0 then (-4) else bd1 (fJxf58ca_floatToIntBits_5c35a (FP.fdiv x2 x3)) (fun (r_4 : Int32) => r_4)) else bd1 (fX9_ofCell S (x4 - x4 / 4 * 4) (x4 / 4) 1) (fun (r_6 : Int32) => (if r_6 ≤ 0 then fX9_partBits_18 S group fu x2 x3 (x4 + 1) else (if x4 / 4 = group then bd1 (fX9_share S (x4 - x4 / 4 * 4) (x4 / 4)) (fun (r_10 : UInt32) => bd1 (fX9_share S (x4 - x4 / 4 * 4) (x4 / 4)) (fun (r_12 : UInt32) => fX9_partBits_18 S group fu (FP.fadd x2 r_10) (FP.fadd x3 r_12) (x4 + 1))) else bd1 (fX9_share S (x4 - x4 / 4 * 4) (x4 / 4)) (fun (r_8 : UInt32) => fX9_partBits_18 S group fu (FP.fadd x2 FP.fconst0) (FP.fadd x3 r_8) (x4 + 1))))))
theorem fX9_partBits_18_s (S : Nat → Int32) (group : Int32) (fu : Nat) (x2 : UInt32) (x3 : UInt32) (x4 : Int32) : fX9_partBits_18 S group (fu + 1) x2 x3 x4 =
    (if (12 : Int32) ≤ x4 then (if Op.cmpValue (FP.fcmp x3 FP.fconst0) .l = 0 then (-4) else bd1 (fJxf58ca_floatToIntBits_5c35a (FP.fdiv x2 x3)) (fun (r_4 : Int32) => r_4)) else bd1 (fX9_ofCell S (x4 - x4 / 4 * 4) (x4 / 4) 1) (fun (r_6 : Int32) => (if r_6 ≤ 0 then fX9_partBits_18 S group fu x2 x3 (x4 + 1) else (if x4 / 4 = group then bd1 (fX9_share S (x4 - x4 / 4 * 4) (x4 / 4)) (fun (r_10 : UInt32) => bd1 (fX9_share S (x4 - x4 / 4 * 4) (x4 / 4)) (fun (r_12 : UInt32) => fX9_partBits_18 S group fu (FP.fadd x2 r_10) (FP.fadd x3 r_12) (x4 + 1))) else bd1 (fX9_share S (x4 - x4 / 4 * 4) (x4 / 4)) (fun (r_8 : UInt32) => fX9_partBits_18 S group fu (FP.fadd x2 FP.fconst0) (FP.fadd x3 r_8) (x4 + 1)))))) := rfl

/-- the value of X9_partBits, path by path -/
def fX9_partBits (S : Nat → Int32) (group : Int32) : Int32 :=
  bd1 (fX9_in group 0 2) (fun (r_2 : Bool) => (if r_2 = true then fX9_partBits_18 S group (((12 : Int32).toInt - (0 : Int32).toInt).toNat + 1) FP.fconst0 FP.fconst0 0 else (-1)))

set_option maxHeartbeats 4000000 in
set_option maxRecDepth 100000 in
/-- X9_partBits -/
theorem mX9_partBits (l : Launch) (D : va_G) (cI cC cS : ClassId) (sz : Nat) (o : Nat) (q1 : Nat) (q2 : Nat) (q3 : Nat) (q4 : Nat) (q5 : Nat) (S : Nat → Int32) (Bg : Nat → Int32) (Pa : Nat → Int32) (Tx : Nat → Int32) (Nu : Nat → Int32) (st : Int32) (ln : Int32) (ps : Int32) (fm : Bool) (rs : Int32) (group : Int32)  : Met l yX9_partBits wsX9_partBits ({ frames := 3, cells := 0, slots := 0, locals := 70 } : Jvm.Room) (va_Pc [.ref o, .int group] (wPre D (TY cI cC cS) [(o, .inr (7, [.ref q1, .ref q2, .ref q3, .int st, .ref q4, .int ln, .int ps, .int (bi fm), .int rs, .ref q5])), (q1, .inl (cI, 314, .inl S)), (q2, .inl (cI, 314, .inl Bg)), (q3, .inl (cI, 1256, .inl Pa)), (q4, .inl (cI, 80, .inl Tx)), (q5, .inl (cI, 5, .inl Nu))] sz X0)) (qI D (TY cI cC cS) (fun (r : Int32) (u : Int32) => fX9_partBits S group = u ∧ r = u) (fun u => [(o, .inr (7, [.ref q1, .ref q2, .ref q3, .int st, .ref q4, .int ln, .int ps, .int (bi fm), .int rs, .ref q5])), (q1, .inl (cI, 314, .inl S)), (q2, .inl (cI, 314, .inl Bg)), (q3, .inl (cI, 1256, .inl Pa)), (q4, .inl (cI, 80, .inl Tx)), (q5, .inl (cI, 5, .inl Nu))]) (va_A [(o, .inr (7, [.ref q1, .ref q2, .ref q3, .int st, .ref q4, .int ln, .int ps, .int (bi fm), .int rs, .ref q5])), (q1, .inl (cI, 314, .inl S)), (q2, .inl (cI, 314, .inl Bg)), (q3, .inl (cI, 1256, .inl Pa)), (q4, .inl (cI, 80, .inl Tx)), (q5, .inl (cI, 5, .inl Nu))] sz)) 0 0 (va_A [(o, .inr (7, [.ref q1, .ref q2, .ref q3, .int st, .ref q4, .int ln, .int ps, .int (bi fm), .int rs, .ref q5])), (q1, .inl (cI, 314, .inl S)), (q2, .inl (cI, 314, .inl Bg)), (q3, .inl (cI, 1256, .inl Pa)), (q4, .inl (cI, 80, .inl Tx)), (q5, .inl (cI, 5, .inl Nu))] sz) := by
  refine mkM (y := yX9_partBits) (wsl := wsX9_partBits) (fun Fr => qI D (TY cI cC cS) (fun (r : Int32) (u : Int32) => fX9_partBits S group = u ∧ r = u) (fun u => [(o, .inr (7, [.ref q1, .ref q2, .ref q3, .int st, .ref q4, .int ln, .int ps, .int (bi fm), .int rs, .ref q5])), (q1, .inl (cI, 314, .inl S)), (q2, .inl (cI, 314, .inl Bg)), (q3, .inl (cI, 1256, .inl Pa)), (q4, .inl (cI, 80, .inl Tx)), (q5, .inl (cI, 5, .inl Nu))]) Fr) (cc := cX9_partBits) (maxL := 5) (ret := (some .int)) (own := RX9) (lv := [(0, .ref o), (1, .int group)]) (by decide) rfl rfl (Nat.le_of_ble_eq_true rfl) rfl ?_
  intro p e s m below meth c Fr ls hx hb hr hts hown hml hlk hin hP hK hD hS hA hAe hsz hX hl
  refine lv_iload_n hx hb dX9_partBits_0 rfl (lv_at hl 1 rfl) ?_
  refine lv_iconst (v := 0) hx hb dX9_partBits_1 (by decide) ?_
  refine lv_iconst (v := 2) hx hb dX9_partBits_2 (by decide) ?_
  refine callSi (As := [.int group, .int 0, .int 2]) (rest := []) (mX9_in l D cI cC cS _ group 0 2) ⟨hx, hb, hml, hown, hts⟩ (va_cwS 3 hts gX9_partBits_X9_in rfl rfl rfl (by decide +kernel) ⟨Nat.le_of_ble_eq_true rfl, Nat.le_of_ble_eq_true rfl⟩) hP hK hD hS hA hl rfl rfl (Nat.le_of_ble_eq_true rfl) dX9_partBits_3 ⟨Nat.zero_le _, Nat.zero_le _⟩ (fun u_ H locs hk2 hP hS => ?_)
  obtain ⟨r_2, e_r_2⟩ : ∃ z, z = u_ := ⟨_, rfl⟩
  subst e_r_2
  refine W.eq (g2 := F0 m 6 ls [.int (bi r_2)]) rfl ?_
  refine lv_if_ne (tgt := 11) hx hb dX9_partBits_6 (by decide) (fun c6 => ?_) (fun c6 => ?_)
  · refine lv_fconst0 hx hb dX9_partBits_11 ?_
    refine lv_fstore_n (lv' := [(2, .float FP.fconst0), (0, .ref o), (1, .int group)]) hx hb dX9_partBits_12 rfl hl (by decide) rfl (fun ls hl => ?_)
    refine lv_fconst0 hx hb dX9_partBits_13 ?_
    refine lv_fstore_n (lv' := [(3, .float FP.fconst0), (2, .float FP.fconst0), (0, .ref o), (1, .int group)]) hx hb dX9_partBits_14 rfl hl (by decide) rfl (fun ls hl => ?_)
    refine lv_iconst (v := 0) hx hb dX9_partBits_15 (by decide) ?_
    refine lv_istore (lv' := [(4, .int 0), (3, .float FP.fconst0), (2, .float FP.fconst0), (0, .ref o), (1, .int group)]) hx hb dX9_partBits_16 hl (by decide) rfl (fun ls hl => ?_)
    have K_18 : ∀ (fu : Nat) (x2 : UInt32) (x3 : UInt32) (x4 : Int32) (H : Heap) (locs : List Loc) (ls : Array Slot), va_P D vwCl [(o, .inr (7, [.ref q1, .ref q2, .ref q3, .int st, .ref q4, .int ln, .int ps, .int (bi fm), .int rs, .ref q5])), (q1, .inl (cI, 314, .inl S)), (q2, .inl (cI, 314, .inl Bg)), (q3, .inl (cI, 1256, .inl Pa)), (q4, .inl (cI, 80, .inl Tx)), (q5, .inl (cI, 5, .inl Nu))] H → va_D Fr [(o, .inr (7, [.ref q1, .ref q2, .ref q3, .int st, .ref q4, .int ln, .int ps, .int (bi fm), .int rs, .ref q5])), (q1, .inl (cI, 314, .inl S)), (q2, .inl (cI, 314, .inl Bg)), (q3, .inl (cI, 1256, .inl Pa)), (q4, .inl (cI, 80, .inl Tx)), (q5, .inl (cI, 5, .inl Nu))] → va_S Fr s.heap H locs → lv_has ls 5 [(0, .ref o), (1, .int group), (2, .float x2), (3, .float x3), (4, .int x4)] → (fMag x2 (195 + 2 * x4.toNatClampNeg)) → (fMag x3 (195 + 2 * x4.toNatClampNeg)) → (¬ x4 < 0) → (x4.toNatClampNeg ≤ 12) → ((12 : Int32).toInt - x4.toInt).toNat < fu → fX9_partBits S group = fX9_partBits_18 S group fu x2 x3 x4 → W p l e (headSpec wsX9_partBits ({ frames := 3, cells := 0, slots := 0, locals := 70 } : Jvm.Room)).room s m ([.ref o, .int group] : List Value).toArray below meth c H locs 0 0 (MQ below (qI D (TY cI cC cS) (fun (r : Int32) (u : Int32) => fX9_partBits S group = u ∧ r = u) (fun u => [(o, .inr (7, [.ref q1, .ref q2, .ref q3, .int st, .ref q4, .int ln, .int ps, .int (bi fm), .int rs, .ref q5])), (q1, .inl (cI, 314, .inl S)), (q2, .inl (cI, 314, .inl Bg)), (q3, .inl (cI, 1256, .inl Pa)), (q4, .inl (cI, 80, .inl Tx)), (q5, .inl (cI, 5, .inl Nu))]) Fr) ([.ref o, .int group] : List Value).toArray s 0 0 Fr) (F0 m 18 ls []) := by
      intro fu
      induction fu with
      | zero => intros; exact absurd (by assumption) (Nat.not_lt_zero _)
      | succ fu ih_18 =>
        intro x2 x3 x4 H locs ls hP hD hS hl hI hJ hi0 h12 hm_18 E_18
        refine lv_iload hx hb dX9_partBits_18 (lv_at hl 4 rfl) ?_
        refine lv_bipush (v := 12) hx hb dX9_partBits_20 (by decide) ?_
        refine lv_icmp_ge (tgt := 89) hx hb dX9_partBits_22 (by decide) (fun c22 => ?_) (fun c22 => ?_)
        · refine lv_fload_n hx hb dX9_partBits_89 rfl (lv_at hl 3 rfl) ?_
          refine lv_fconst0 hx hb dX9_partBits_90 ?_
          refine lv_fcmp hx hb dX9_partBits_91 ?_
          refine lv_if_ne (tgt := 100) hx hb dX9_partBits_92 (by decide) (fun c92 => ?_) (fun c92 => ?_)
          · refine lv_fload_n hx hb dX9_partBits_100 rfl (lv_at hl 2 rfl) ?_
            refine lv_fload_n hx hb dX9_partBits_101 rfl (lv_at hl 3 rfl) ?_
            refine lv_fdiv hx hb dX9_partBits_102 (fl_n32 (fl_partn (fm_nn hI (by omega)) hJ (by omega) c92)) ?_
            refine callSi (As := [.float (FP.fdiv x2 x3)]) (rest := []) (mJxf58ca_floatToIntBits_5c35a l D cI cC cS _ (FP.fdiv x2 x3) (fl_self (fl_partn (fm_nn hI (by omega)) hJ (by omega) c92))) ⟨hx, hb, hml, hown, hts⟩ (va_cwS 1 hts gX9_partBits_Jxf58ca_floatToIntBits_5c35a rfl rfl rfl (by decide +kernel) ⟨Nat.le_of_ble_eq_true rfl, Nat.le_of_ble_eq_true rfl⟩) hP hK hD hS hA hl rfl rfl (Nat.le_of_ble_eq_true rfl) dX9_partBits_103 ⟨Nat.zero_le _, Nat.zero_le _⟩ (fun u_ H locs hk4 hP hS => ?_)
            obtain ⟨r_4, e_r_4⟩ : ∃ z, z = u_ := ⟨_, rfl⟩
            subst e_r_4
            refine W.eq (g2 := F0 m 106 ls [.int r_4]) rfl ?_
            exact endI hx hb hr hlk hP hK hD hS dX9_partBits_106 r_4 rfl ⟨(E_18).trans ((fX9_partBits_18_s S group fu x2 x3 x4).trans ((if_pos c22).trans ((if_neg c92).trans ((bd1_e hk4).trans rfl)))), rfl⟩
          · refine lv_bipush (v := (-4)) hx hb dX9_partBits_95 (by decide) ?_
            refine lv_goto (tgt := 106) hx hb dX9_partBits_97 (by decide) ?_
            exact endI hx hb hr hlk hP hK hD hS dX9_partBits_106 (-4) rfl ⟨(E_18).trans ((fX9_partBits_18_s S group fu x2 x3 x4).trans ((if_pos c22).trans ((if_pos c92).trans rfl))), rfl⟩
        · refine lv_aload_n hx hb dX9_partBits_25 rfl (lv_at hl 0 rfl) ?_
          refine lv_iload hx hb dX9_partBits_26 (lv_at hl 4 rfl) ?_
          refine lv_iconst (v := 4) hx hb dX9_partBits_28 (by decide) ?_
          refine lv_irem hx hb dX9_partBits_29 (by decide) ?_
          refine lv_iload hx hb dX9_partBits_30 (lv_at hl 4 rfl) ?_
          refine lv_iconst (v := 4) hx hb dX9_partBits_32 (by decide) ?_
          refine lv_idiv hx hb dX9_partBits_33 (by decide) ?_
          refine lv_iconst (v := 1) hx hb dX9_partBits_34 (by decide) ?_
          refine callVi (As := [.int (x4 - x4 / 4 * 4), .int (x4 / 4), .int 1]) (rest := []) (mX9_ofCell l D cI cC cS _ o q1 q2 q3 q4 q5 S Bg Pa Tx Nu st ln ps fm rs (x4 - x4 / 4 * 4) (x4 / 4) 1 (ix_m4 hi0 c22) (ix_d4 hi0 c22) (vp_d rfl)) ⟨hx, hb, hml, hown, hts⟩ (cwV 3 hts gX9_partBits_X9_ofCell rfl rfl rfl (by decide +kernel) ⟨Nat.le_of_ble_eq_true rfl, Nat.le_of_ble_eq_true rfl⟩) X0_blind (fun _ _ _ => trivial) hP hK hD hS hA hl [0, 1, 2, 3, 4, 5] rfl rfl 0 7 rfl rfl rfl rfl rfl (Nat.le_of_ble_eq_true rfl) dX9_partBits_35 ⟨Nat.zero_le _, Nat.zero_le _⟩ (fun _ => rfl) (fun u_ H locs hk6 hP hD hS => ?_)
          obtain ⟨r_6, e_r_6⟩ : ∃ z, z = u_ := ⟨_, rfl⟩
          subst e_r_6
          have hP : va_P D vwCl [(o, .inr (7, [.ref q1, .ref q2, .ref q3, .int st, .ref q4, .int ln, .int ps, .int (bi fm), .int rs, .ref q5])), (q1, .inl (cI, 314, .inl S)), (q2, .inl (cI, 314, .inl Bg)), (q3, .inl (cI, 1256, .inl Pa)), (q4, .inl (cI, 80, .inl Tx)), (q5, .inl (cI, 5, .inl Nu))] H := hP
          have hD : va_D Fr [(o, .inr (7, [.ref q1, .ref q2, .ref q3, .int st, .ref q4, .int ln, .int ps, .int (bi fm), .int rs, .ref q5])), (q1, .inl (cI, 314, .inl S)), (q2, .inl (cI, 314, .inl Bg)), (q3, .inl (cI, 1256, .inl Pa)), (q4, .inl (cI, 80, .inl Tx)), (q5, .inl (cI, 5, .inl Nu))] := hD
          refine W.eq (g2 := F0 m 38 ls [.int r_6]) rfl ?_
          refine lv_if_le (tgt := 83) hx hb dX9_partBits_38 (by decide) (fun c38 => ?_) (fun c38 => ?_)
          · refine lv_iinc (v := x4 + 1) (lv' := [(4, .int (x4 + 1)), (0, .ref o), (1, .int group), (2, .float x2), (3, .float x3)]) hx hb dX9_partBits_83 hl (k := 4) rfl (by rfl) (by decide) rfl (fun ls hl => ?_)
            refine lv_goto (tgt := 18) hx hb dX9_partBits_86 (by decide) ?_
            exact ih_18 x2 x3 (x4 + 1) _ _ ls hP hD hS (lv_sub hl [1, 2, 3, 4, 0] rfl) (fm_le hI (by rw [cl_up hi0 c22]; omega)) (fm_le hJ (by rw [cl_up hi0 c22]; omega)) (up_k hi0 c22) (by rw [cl_up hi0 c22]; have := cl_lt hi0 c22; have e12 : (12 : Int32).toNatClampNeg = 12 := (by decide); omega) (Nat.lt_of_lt_of_le (lp_dec c22) (Nat.le_of_lt_succ hm_18)) ((E_18).trans ((fX9_partBits_18_s S group fu x2 x3 x4).trans ((if_neg c22).trans ((bd1_e hk6).trans ((if_pos c38).trans rfl)))))
          · refine lv_fload_n hx hb dX9_partBits_41 rfl (lv_at hl 2 rfl) ?_
            refine lv_iload hx hb dX9_partBits_42 (lv_at hl 4 rfl) ?_
            refine lv_iconst (v := 4) hx hb dX9_partBits_44 (by decide) ?_
            refine lv_idiv hx hb dX9_partBits_45 (by decide) ?_
            refine lv_iload_n hx hb dX9_partBits_46 rfl (lv_at hl 1 rfl) ?_
            refine lv_icmp_ne (tgt := 65) hx hb dX9_partBits_47 (by decide) (fun c47 => ?_) (fun c47 => ?_)
            · refine lv_fconst0 hx hb dX9_partBits_65 ?_
              refine lv_fadd hx hb dX9_partBits_66 (fl_n32 (fm_nn (fm_up hI (fm_0 (by decide)) (by decide) (by have := cl_lt hi0 c22; have e12 : (12 : Int32).toNatClampNeg = 12 := (by decide); omega) (cl_up hi0 c22)) (by have := cl_lt hi0 c22; have e12 : (12 : Int32).toNatClampNeg = 12 := (by decide); rw [cl_up hi0 c22]; omega))) ?_
              refine lv_fstore_n (lv' := [(2, .float (FP.fadd x2 FP.fconst0)), (0, .ref o), (1, .int group), (3, .float x3), (4, .int x4)]) hx hb dX9_partBits_67 rfl hl (by decide) rfl (fun ls hl => ?_)
              refine lv_fload_n hx hb dX9_partBits_68 rfl (lv_at hl 3 rfl) ?_
              refine lv_aload_n hx hb dX9_partBits_69 rfl (lv_at hl 1 rfl) ?_
              refine lv_iload hx hb dX9_partBits_70 (lv_at hl 4 rfl) ?_
              refine lv_iconst (v := 4) hx hb dX9_partBits_72 (by decide) ?_
              refine lv_irem hx hb dX9_partBits_73 (by decide) ?_
              refine lv_iload hx hb dX9_partBits_74 (lv_at hl 4 rfl) ?_
              refine lv_iconst (v := 4) hx hb dX9_partBits_76 (by decide) ?_
              refine lv_idiv hx hb dX9_partBits_77 (by decide) ?_
              refine callVf (As := [.int (x4 - x4 / 4 * 4), .int (x4 / 4)]) (rest := [.float x3]) (mX9_share l D cI cC cS _ o q1 q2 q3 q4 q5 S Bg Pa Tx Nu st ln ps fm rs (x4 - x4 / 4 * 4) (x4 / 4) (ix_m4 hi0 c22) (ix_d4 hi0 c22) (hk6.symm ▸ fl_npos c38)) ⟨hx, hb, hml, hown, hts⟩ (cwV 2 hts gX9_partBits_X9_share rfl rfl rfl (by decide +kernel) ⟨Nat.le_of_ble_eq_true rfl, Nat.le_of_ble_eq_true rfl⟩) X0_blind (fun _ _ _ => trivial) hP hK hD hS hA hl [0, 1, 2, 3, 4, 5] rfl rfl 0 7 rfl rfl rfl rfl rfl (Nat.le_of_ble_eq_true rfl) dX9_partBits_78 ⟨Nat.zero_le _, Nat.zero_le _⟩ (fun _ => rfl) (fun u_ H locs hk8 hP hD hS => ?_)
              obtain ⟨r_8, e_r_8⟩ : ∃ z, z = u_ := ⟨_, rfl⟩
              subst e_r_8
              have hP : va_P D vwCl [(o, .inr (7, [.ref q1, .ref q2, .ref q3, .int st, .ref q4, .int ln, .int ps, .int (bi fm), .int rs, .ref q5])), (q1, .inl (cI, 314, .inl S)), (q2, .inl (cI, 314, .inl Bg)), (q3, .inl (cI, 1256, .inl Pa)), (q4, .inl (cI, 80, .inl Tx)), (q5, .inl (cI, 5, .inl Nu))] H := hP
              have hD : va_D Fr [(o, .inr (7, [.ref q1, .ref q2, .ref q3, .int st, .ref q4, .int ln, .int ps, .int (bi fm), .int rs, .ref q5])), (q1, .inl (cI, 314, .inl S)), (q2, .inl (cI, 314, .inl Bg)), (q3, .inl (cI, 1256, .inl Pa)), (q4, .inl (cI, 80, .inl Tx)), (q5, .inl (cI, 5, .inl Nu))] := hD
              refine W.eq (g2 := F0 m 81 ls [.float r_8, .float x3]) rfl ?_
              refine lv_fadd hx hb dX9_partBits_81 (fl_n32 (fm_nn (fm_up hJ (hk8 ▸ sh9_mag (hk6.symm ▸ fl_npos c38)) (by decide) (by have := cl_lt hi0 c22; have e12 : (12 : Int32).toNatClampNeg = 12 := (by decide); omega) (cl_up hi0 c22)) (by have := cl_lt hi0 c22; have e12 : (12 : Int32).toNatClampNeg = 12 := (by decide); rw [cl_up hi0 c22]; omega))) ?_
              refine lv_fstore_n (lv' := [(3, .float (FP.fadd x3 r_8)), (2, .float (FP.fadd x2 FP.fconst0)), (0, .ref o), (1, .int group), (4, .int x4)]) hx hb dX9_partBits_82 rfl hl (by decide) rfl (fun ls hl => ?_)
              refine lv_iinc (v := x4 + 1) (lv' := [(4, .int (x4 + 1)), (3, .float (FP.fadd x3 r_8)), (2, .float (FP.fadd x2 FP.fconst0)), (0, .ref o), (1, .int group)]) hx hb dX9_partBits_83 hl (k := 4) rfl (by rfl) (by decide) rfl (fun ls hl => ?_)
              refine lv_goto (tgt := 18) hx hb dX9_partBits_86 (by decide) ?_
              exact ih_18 (FP.fadd x2 FP.fconst0) (FP.fadd x3 r_8) (x4 + 1) _ _ ls hP hD hS (lv_sub hl [3, 4, 2, 1, 0] rfl) (fm_up hI (fm_0 (by decide)) (by decide) (by have := cl_lt hi0 c22; have e12 : (12 : Int32).toNatClampNeg = 12 := (by decide); omega) (cl_up hi0 c22)) (fm_up hJ (hk8 ▸ sh9_mag (hk6.symm ▸ fl_npos c38)) (by decide) (by have := cl_lt hi0 c22; have e12 : (12 : Int32).toNatClampNeg = 12 := (by decide); omega) (cl_up hi0 c22)) (up_k hi0 c22) (by rw [cl_up hi0 c22]; have := cl_lt hi0 c22; have e12 : (12 : Int32).toNatClampNeg = 12 := (by decide); omega) (Nat.lt_of_lt_of_le (lp_dec c22) (Nat.le_of_lt_succ hm_18)) ((E_18).trans ((fX9_partBits_18_s S group fu x2 x3 x4).trans ((if_neg c22).trans ((bd1_e hk6).trans ((if_neg c38).trans ((if_neg c47).trans ((bd1_e hk8).trans rfl)))))))
            · refine lv_aload_n hx hb dX9_partBits_50 rfl (lv_at hl 0 rfl) ?_
              refine lv_iload hx hb dX9_partBits_51 (lv_at hl 4 rfl) ?_
              refine lv_iconst (v := 4) hx hb dX9_partBits_53 (by decide) ?_
              refine lv_irem hx hb dX9_partBits_54 (by decide) ?_
              refine lv_iload hx hb dX9_partBits_55 (lv_at hl 4 rfl) ?_
              refine lv_iconst (v := 4) hx hb dX9_partBits_57 (by decide) ?_
              refine lv_idiv hx hb dX9_partBits_58 (by decide) ?_
              refine callVf (As := [.int (x4 - x4 / 4 * 4), .int (x4 / 4)]) (rest := [.float x2]) (mX9_share l D cI cC cS _ o q1 q2 q3 q4 q5 S Bg Pa Tx Nu st ln ps fm rs (x4 - x4 / 4 * 4) (x4 / 4) (ix_m4 hi0 c22) (ix_d4 hi0 c22) (hk6.symm ▸ fl_npos c38)) ⟨hx, hb, hml, hown, hts⟩ (cwV 2 hts gX9_partBits_X9_share rfl rfl rfl (by decide +kernel) ⟨Nat.le_of_ble_eq_true rfl, Nat.le_of_ble_eq_true rfl⟩) X0_blind (fun _ _ _ => trivial) hP hK hD hS hA hl [0, 1, 2, 3, 4, 5] rfl rfl 0 7 rfl rfl rfl rfl rfl (Nat.le_of_ble_eq_true rfl) dX9_partBits_59 ⟨Nat.zero_le _, Nat.zero_le _⟩ (fun _ => rfl) (fun u_ H locs hk10 hP hD hS => ?_)
              obtain ⟨r_10, e_r_10⟩ : ∃ z, z = u_ := ⟨_, rfl⟩
              subst e_r_10
              have hP : va_P D vwCl [(o, .inr (7, [.ref q1, .ref q2, .ref q3, .int st, .ref q4, .int ln, .int ps, .int (bi fm), .int rs, .ref q5])), (q1, .inl (cI, 314, .inl S)), (q2, .inl (cI, 314, .inl Bg)), (q3, .inl (cI, 1256, .inl Pa)), (q4, .inl (cI, 80, .inl Tx)), (q5, .inl (cI, 5, .inl Nu))] H := hP
              have hD : va_D Fr [(o, .inr (7, [.ref q1, .ref q2, .ref q3, .int st, .ref q4, .int ln, .int ps, .int (bi fm), .int rs, .ref q5])), (q1, .inl (cI, 314, .inl S)), (q2, .inl (cI, 314, .inl Bg)), (q3, .inl (cI, 1256, .inl Pa)), (q4, .inl (cI, 80, .inl Tx)), (q5, .inl (cI, 5, .inl Nu))] := hD
              refine W.eq (g2 := F0 m 62 ls [.float r_10, .float x2]) rfl ?_
              refine lv_goto (tgt := 66) hx hb dX9_partBits_62 (by decide) ?_
              refine lv_fadd hx hb dX9_partBits_66 (fl_n32 (fm_nn (fm_up hI (hk10 ▸ sh9_mag (hk6.symm ▸ fl_npos c38)) (by decide) (by have := cl_lt hi0 c22; have e12 : (12 : Int32).toNatClampNeg = 12 := (by decide); omega) (cl_up hi0 c22)) (by have := cl_lt hi0 c22; have e12 : (12 : Int32).toNatClampNeg = 12 := (by decide); rw [cl_up hi0 c22]; omega))) ?_
              refine lv_fstore_n (lv' := [(2, .float (FP.fadd x2 r_10)), (0, .ref o), (1, .int group), (3, .float x3), (4, .int x4)]) hx hb dX9_partBits_67 rfl hl (by decide) rfl (fun ls hl => ?_)
              refine lv_fload_n hx hb dX9_partBits_68 rfl (lv_at hl 3 rfl) ?_
              refine lv_aload_n hx hb dX9_partBits_69 rfl (lv_at hl 1 rfl) ?_
              refine lv_iload hx hb dX9_partBits_70 (lv_at hl 4 rfl) ?_
              refine lv_iconst (v := 4) hx hb dX9_partBits_72 (by decide) ?_
              refine lv_irem hx hb dX9_partBits_73 (by decide) ?_
              refine lv_iload hx hb dX9_partBits_74 (lv_at hl 4 rfl) ?_
              refine lv_iconst (v := 4) hx hb dX9_partBits_76 (by decide) ?_
              refine lv_idiv hx hb dX9_partBits_77 (by decide) ?_
              refine callVf (As := [.int (x4 - x4 / 4 * 4), .int (x4 / 4)]) (rest := [.float x3]) (mX9_share l D cI cC cS _ o q1 q2 q3 q4 q5 S Bg Pa Tx Nu st ln ps fm rs (x4 - x4 / 4 * 4) (x4 / 4) (ix_m4 hi0 c22) (ix_d4 hi0 c22) (hk6.symm ▸ fl_npos c38)) ⟨hx, hb, hml, hown, hts⟩ (cwV 2 hts gX9_partBits_X9_share rfl rfl rfl (by decide +kernel) ⟨Nat.le_of_ble_eq_true rfl, Nat.le_of_ble_eq_true rfl⟩) X0_blind (fun _ _ _ => trivial) hP hK hD hS hA hl [0, 1, 2, 3, 4, 5] rfl rfl 0 7 rfl rfl rfl rfl rfl (Nat.le_of_ble_eq_true rfl) dX9_partBits_78 ⟨Nat.zero_le _, Nat.zero_le _⟩ (fun _ => rfl) (fun u_ H locs hk12 hP hD hS => ?_)
              obtain ⟨r_12, e_r_12⟩ : ∃ z, z = u_ := ⟨_, rfl⟩
              subst e_r_12
              have hP : va_P D vwCl [(o, .inr (7, [.ref q1, .ref q2, .ref q3, .int st, .ref q4, .int ln, .int ps, .int (bi fm), .int rs, .ref q5])), (q1, .inl (cI, 314, .inl S)), (q2, .inl (cI, 314, .inl Bg)), (q3, .inl (cI, 1256, .inl Pa)), (q4, .inl (cI, 80, .inl Tx)), (q5, .inl (cI, 5, .inl Nu))] H := hP
              have hD : va_D Fr [(o, .inr (7, [.ref q1, .ref q2, .ref q3, .int st, .ref q4, .int ln, .int ps, .int (bi fm), .int rs, .ref q5])), (q1, .inl (cI, 314, .inl S)), (q2, .inl (cI, 314, .inl Bg)), (q3, .inl (cI, 1256, .inl Pa)), (q4, .inl (cI, 80, .inl Tx)), (q5, .inl (cI, 5, .inl Nu))] := hD
              refine W.eq (g2 := F0 m 81 ls [.float r_12, .float x3]) rfl ?_
              refine lv_fadd hx hb dX9_partBits_81 (fl_n32 (fm_nn (fm_up hJ (hk12 ▸ sh9_mag (hk6.symm ▸ fl_npos c38)) (by decide) (by have := cl_lt hi0 c22; have e12 : (12 : Int32).toNatClampNeg = 12 := (by decide); omega) (cl_up hi0 c22)) (by have := cl_lt hi0 c22; have e12 : (12 : Int32).toNatClampNeg = 12 := (by decide); rw [cl_up hi0 c22]; omega))) ?_
              refine lv_fstore_n (lv' := [(3, .float (FP.fadd x3 r_12)), (2, .float (FP.fadd x2 r_10)), (0, .ref o), (1, .int group), (4, .int x4)]) hx hb dX9_partBits_82 rfl hl (by decide) rfl (fun ls hl => ?_)
              refine lv_iinc (v := x4 + 1) (lv' := [(4, .int (x4 + 1)), (3, .float (FP.fadd x3 r_12)), (2, .float (FP.fadd x2 r_10)), (0, .ref o), (1, .int group)]) hx hb dX9_partBits_83 hl (k := 4) rfl (by rfl) (by decide) rfl (fun ls hl => ?_)
              refine lv_goto (tgt := 18) hx hb dX9_partBits_86 (by decide) ?_
              exact ih_18 (FP.fadd x2 r_10) (FP.fadd x3 r_12) (x4 + 1) _ _ ls hP hD hS (lv_sub hl [3, 4, 2, 1, 0] rfl) (fm_up hI (hk10 ▸ sh9_mag (hk6.symm ▸ fl_npos c38)) (by decide) (by have := cl_lt hi0 c22; have e12 : (12 : Int32).toNatClampNeg = 12 := (by decide); omega) (cl_up hi0 c22)) (fm_up hJ (hk12 ▸ sh9_mag (hk6.symm ▸ fl_npos c38)) (by decide) (by have := cl_lt hi0 c22; have e12 : (12 : Int32).toNatClampNeg = 12 := (by decide); omega) (cl_up hi0 c22)) (up_k hi0 c22) (by rw [cl_up hi0 c22]; have := cl_lt hi0 c22; have e12 : (12 : Int32).toNatClampNeg = 12 := (by decide); omega) (Nat.lt_of_lt_of_le (lp_dec c22) (Nat.le_of_lt_succ hm_18)) ((E_18).trans ((fX9_partBits_18_s S group fu x2 x3 x4).trans ((if_neg c22).trans ((bd1_e hk6).trans ((if_neg c38).trans ((if_pos c47).trans ((bd1_e hk10).trans ((bd1_e hk12).trans rfl))))))))
    exact K_18 (((12 : Int32).toInt - (0 : Int32).toInt).toNat + 1) FP.fconst0 FP.fconst0 0 _ _ ls hP hD hS (lv_sub hl [3, 4, 2, 1, 0] rfl) (fm_0 (Nat.lt_of_lt_of_le (by decide) (Nat.le_add_right _ _))) (fm_0 (Nat.lt_of_lt_of_le (by decide) (Nat.le_add_right _ _))) (by decide) (by decide) (Nat.lt_succ_self _) ((bd1_e hk2).trans ((if_pos (bi_o c6)).trans rfl))
  · refine lv_iconst (v := (-1)) hx hb dX9_partBits_9 (by decide) ?_
    exact endI hx hb hr hlk hP hK hD hS dX9_partBits_10 (-1) rfl ⟨(bd1_e hk2).trans ((if_neg (bi_z c6)).trans rfl), rfl⟩

