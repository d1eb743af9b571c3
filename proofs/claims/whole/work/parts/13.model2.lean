/-- X9_rank from 25 on -/
def fX9_rank_25 (S : Nat → Int32) (address : Int32) (who : Int32) (f : Int32) : Int32 :=
  bd1 (fX9_of S address 0) (fun (r_2 : Int32) => bd1 (fX9_ofWho S who 0) (fun (r_4 : Int32) => (if r_2 = r_4 then bd1 (fX9_of S address 0) (fun (r_10 : Int32) => bd1 (fX9_wantedIn S r_10) (fun (r_12 : Int32) => (if r_12 ≤ 0 then ((4 * f) + (2 * 0)) + 1 else ((4 * f) + (2 * 0)) + 0))) else bd1 (fX9_of S address 0) (fun (r_6 : Int32) => bd1 (fX9_wantedIn S r_6) (fun (r_8 : Int32) => (if r_8 ≤ 0 then ((4 * f) + (2 * 1)) + 1 else ((4 * f) + (2 * 1)) + 0))))))

/-- the value of X9_rank, path by path -/
def fX9_rank (S : Nat → Int32) (address : Int32) (who : Int32) : Int32 :=
  bd1 (fX9_isFixed S address) (fun (r_14 : Bool) => (if r_14 = true then bd1 (fX9_isOver S address) (fun (r_16 : Bool) => (if r_16 = true then fX9_rank_25 S address who 1 else fX9_rank_25 S address who 0)) else fX9_rank_25 S address who 2))

set_option maxHeartbeats 4000000 in
set_option maxRecDepth 100000 in
/-- X9_rank -/
theorem mX9_rank (l : Launch) (D : va_G) (cI cC cS : ClassId) (sz : Nat) (o : Nat) (q1 : Nat) (q2 : Nat) (q3 : Nat) (q4 : Nat) (q5 : Nat) (S : Nat → Int32) (Bg : Nat → Int32) (Pa : Nat → Int32) (Tx : Nat → Int32) (Nu : Nat → Int32) (st : Int32) (ln : Int32) (ps : Int32) (fm : Bool) (rs : Int32) (address : Int32) (who : Int32) (hfa : vp_in address 24) (hfw : vp_in who 5) (ho : okS S) : Met l yX9_rank wsX9_rank ({ frames := 4, cells := 0, slots := 0, locals := 85 } : Jvm.Room) (va_Pc [.ref o, .int address, .int who] (wPre D (TY cI cC cS) [(o, .inr (7, [.ref q1, .ref q2, .ref q3, .int st, .ref q4, .int ln, .int ps, .int (bi fm), .int rs, .ref q5])), (q1, .inl (cI, 314, .inl S)), (q2, .inl (cI, 314, .inl Bg)), (q3, .inl (cI, 1256, .inl Pa)), (q4, .inl (cI, 80, .inl Tx)), (q5, .inl (cI, 5, .inl Nu))] sz X0)) (qI D (TY cI cC cS) (fun (r : Int32) (u : Int32) => fX9_rank S address who = u ∧ r = u) (fun u => [(o, .inr (7, [.ref q1, .ref q2, .ref q3, .int st, .ref q4, .int ln, .int ps, .int (bi fm), .int rs, .ref q5])), (q1, .inl (cI, 314, .inl S)), (q2, .inl (cI, 314, .inl Bg)), (q3, .inl (cI, 1256, .inl Pa)), (q4, .inl (cI, 80, .inl Tx)), (q5, .inl (cI, 5, .inl Nu))]) (va_A [(o, .inr (7, [.ref q1, .ref q2, .ref q3, .int st, .ref q4, .int ln, .int ps, .int (bi fm), .int rs, .ref q5])), (q1, .inl (cI, 314, .inl S)), (q2, .inl (cI, 314, .inl Bg)), (q3, .inl (cI, 1256, .inl Pa)), (q4, .inl (cI, 80, .inl Tx)), (q5, .inl (cI, 5, .inl Nu))] sz)) 0 0 (va_A [(o, .inr (7, [.ref q1, .ref q2, .ref q3, .int st, .ref q4, .int ln, .int ps, .int (bi fm), .int rs, .ref q5])), (q1, .inl (cI, 314, .inl S)), (q2, .inl (cI, 314, .inl Bg)), (q3, .inl (cI, 1256, .inl Pa)), (q4, .inl (cI, 80, .inl Tx)), (q5, .inl (cI, 5, .inl Nu))] sz) := by
  refine mkM (fun Fr => qI D (TY cI cC cS) (fun (r : Int32) (u : Int32) => fX9_rank S address who = u ∧ r = u) (fun u => [(o, .inr (7, [.ref q1, .ref q2, .ref q3, .int st, .ref q4, .int ln, .int ps, .int (bi fm), .int rs, .ref q5])), (q1, .inl (cI, 314, .inl S)), (q2, .inl (cI, 314, .inl Bg)), (q3, .inl (cI, 1256, .inl Pa)), (q4, .inl (cI, 80, .inl Tx)), (q5, .inl (cI, 5, .inl Nu))]) Fr) (cc := cX9_rank) (maxL := 6) (ret := (some .int)) (own := RX9) (lv := [(0, .ref o), (1, .int address), (2, .int who)]) (by decide) rfl rfl (Nat.le_of_ble_eq_true rfl) rfl ?_
  intro p e s m below meth c Fr ls hx hb hr hts hown hml hlk hin hP hK hD hS hA hAe hsz hX hl
  have K_25 : ∀ (f : Int32) (H : Heap) (locs : List Loc) (ls : Array Slot), va_P D vwCl [(o, .inr (7, [.ref q1, .ref q2, .ref q3, .int st, .ref q4, .int ln, .int ps, .int (bi fm), .int rs, .ref q5])), (q1, .inl (cI, 314, .inl S)), (q2, .inl (cI, 314, .inl Bg)), (q3, .inl (cI, 1256, .inl Pa)), (q4, .inl (cI, 80, .inl Tx)), (q5, .inl (cI, 5, .inl Nu))] H → va_D Fr [(o, .inr (7, [.ref q1, .ref q2, .ref q3, .int st, .ref q4, .int ln, .int ps, .int (bi fm), .int rs, .ref q5])), (q1, .inl (cI, 314, .inl S)), (q2, .inl (cI, 314, .inl Bg)), (q3, .inl (cI, 1256, .inl Pa)), (q4, .inl (cI, 80, .inl Tx)), (q5, .inl (cI, 5, .inl Nu))] → va_S Fr s.heap H locs → lv_has ls 6 [(0, .ref o), (1, .int address), (2, .int who)] → fX9_rank S address who = fX9_rank_25 S address who f → W p l e (headSpec wsX9_rank ({ frames := 4, cells := 0, slots := 0, locals := 85 } : Jvm.Room)).room s m ([.ref o, .int address, .int who] : List Value).toArray below meth c H locs 0 0 (MQ below (qI D (TY cI cC cS) (fun (r : Int32) (u : Int32) => fX9_rank S address who = u ∧ r = u) (fun u => [(o, .inr (7, [.ref q1, .ref q2, .ref q3, .int st, .ref q4, .int ln, .int ps, .int (bi fm), .int rs, .ref q5])), (q1, .inl (cI, 314, .inl S)), (q2, .inl (cI, 314, .inl Bg)), (q3, .inl (cI, 1256, .inl Pa)), (q4, .inl (cI, 80, .inl Tx)), (q5, .inl (cI, 5, .inl Nu))]) Fr) ([.ref o, .int address, .int who] : List Value).toArray s 0 0 Fr) (F0 m 25 ls [.int f]) := by
    intro f H locs ls hP hD hS hl  E_25
    refine lv_istore_n (lv' := [(3, .int f), (0, .ref o), (1, .int address), (2, .int who)]) hx hb dX9_rank_25 rfl hl (by decide) rfl (fun ls hl => ?_)
    refine lv_aload_n hx hb dX9_rank_26 rfl (lv_at hl 1 rfl) ?_
    refine lv_iload_n hx hb dX9_rank_27 rfl (lv_at hl 2 rfl) ?_
    refine lv_iconst (v := 0) hx hb dX9_rank_28 (by decide) ?_
    refine callVi (As := [.int address, .int 0]) (rest := []) (mX9_of l D cI cC cS _ o q1 q2 q3 q4 q5 S Bg Pa Tx Nu st ln ps fm rs address 0 hfa (vp_d rfl)) ⟨hx, hb, hml, hown, hts⟩ (cwV 2 hts gX9_rank_X9_of rfl rfl rfl (by decide +kernel) ⟨Nat.le_of_ble_eq_true rfl, Nat.le_of_ble_eq_true rfl⟩) X0_blind (fun _ _ _ => trivial) hP hK hD hS hA hl [0, 1, 2, 3, 4, 5] rfl rfl 0 7 rfl rfl rfl rfl rfl (Nat.le_of_ble_eq_true rfl) dX9_rank_29 ⟨Nat.zero_le _, Nat.zero_le _⟩ (fun _ => rfl) (fun u_ H locs hk2 hP hD hS => ?_)
    obtain ⟨r_2, e_r_2⟩ : ∃ z, z = u_ := ⟨_, rfl⟩
    subst e_r_2
    have hP : va_P D vwCl [(o, .inr (7, [.ref q1, .ref q2, .ref q3, .int st, .ref q4, .int ln, .int ps, .int (bi fm), .int rs, .ref q5])), (q1, .inl (cI, 314, .inl S)), (q2, .inl (cI, 314, .inl Bg)), (q3, .inl (cI, 1256, .inl Pa)), (q4, .inl (cI, 80, .inl Tx)), (q5, .inl (cI, 5, .inl Nu))] H := hP
    have hD : va_D Fr [(o, .inr (7, [.ref q1, .ref q2, .ref q3, .int st, .ref q4, .int ln, .int ps, .int (bi fm), .int rs, .ref q5])), (q1, .inl (cI, 314, .inl S)), (q2, .inl (cI, 314, .inl Bg)), (q3, .inl (cI, 1256, .inl Pa)), (q4, .inl (cI, 80, .inl Tx)), (q5, .inl (cI, 5, .inl Nu))] := hD
    refine W.eq (g2 := F0 m 32 ls [.int r_2]) rfl ?_
    refine lv_aload_n hx hb dX9_rank_32 rfl (lv_at hl 1 rfl) ?_
    refine lv_iload_n hx hb dX9_rank_33 rfl (lv_at hl 3 rfl) ?_
    refine lv_iconst (v := 0) hx hb dX9_rank_34 (by decide) ?_
    refine callVi (As := [.int who, .int 0]) (rest := [.int r_2]) (mX9_ofWho l D cI cC cS _ o q1 q2 q3 q4 q5 S Bg Pa Tx Nu st ln ps fm rs who 0 hfw (vp_d rfl)) ⟨hx, hb, hml, hown, hts⟩ (cwV 2 hts gX9_rank_X9_ofWho rfl rfl rfl (by decide +kernel) ⟨Nat.le_of_ble_eq_true rfl, Nat.le_of_ble_eq_true rfl⟩) X0_blind (fun _ _ _ => trivial) hP hK hD hS hA hl [0, 1, 2, 3, 4, 5] rfl rfl 0 7 rfl rfl rfl rfl rfl (Nat.le_of_ble_eq_true rfl) dX9_rank_35 ⟨Nat.zero_le _, Nat.zero_le _⟩ (fun _ => rfl) (fun u_ H locs hk4 hP hD hS => ?_)
    obtain ⟨r_4, e_r_4⟩ : ∃ z, z = u_ := ⟨_, rfl⟩
    subst e_r_4
    have hP : va_P D vwCl [(o, .inr (7, [.ref q1, .ref q2, .ref q3, .int st, .ref q4, .int ln, .int ps, .int (bi fm), .int rs, .ref q5])), (q1, .inl (cI, 314, .inl S)), (q2, .inl (cI, 314, .inl Bg)), (q3, .inl (cI, 1256, .inl Pa)), (q4, .inl (cI, 80, .inl Tx)), (q5, .inl (cI, 5, .inl Nu))] H := hP
    have hD : va_D Fr [(o, .inr (7, [.ref q1, .ref q2, .ref q3, .int st, .ref q4, .int ln, .int ps, .int (bi fm), .int rs, .ref q5])), (q1, .inl (cI, 314, .inl S)), (q2, .inl (cI, 314, .inl Bg)), (q3, .inl (cI, 1256, .inl Pa)), (q4, .inl (cI, 80, .inl Tx)), (q5, .inl (cI, 5, .inl Nu))] := hD
    refine W.eq (g2 := F0 m 38 ls [.int r_4, .int r_2]) rfl ?_
    refine lv_icmp_ne (tgt := 45) hx hb dX9_rank_38 (by decide) (fun c38 => ?_) (fun c38 => ?_)
    · refine lv_iconst (v := 1) hx hb dX9_rank_45 (by decide) ?_
      refine lv_istore (lv' := [(4, .int 1), (3, .int f), (0, .ref o), (1, .int address), (2, .int who)]) hx hb dX9_rank_46 hl (by decide) rfl (fun ls hl => ?_)
      refine lv_aload_n hx hb dX9_rank_48 rfl (lv_at hl 2 rfl) ?_
      refine lv_aload_n hx hb dX9_rank_49 rfl (lv_at hl 2 rfl) ?_
      refine lv_iload_n hx hb dX9_rank_50 rfl (lv_at hl 3 rfl) ?_
      refine lv_iconst (v := 0) hx hb dX9_rank_51 (by decide) ?_
      refine callVi (As := [.int address, .int 0]) (rest := [.ref o]) (mX9_of l D cI cC cS _ o q1 q2 q3 q4 q5 S Bg Pa Tx Nu st ln ps fm rs address 0 hfa (vp_d rfl)) ⟨hx, hb, hml, hown, hts⟩ (cwV 2 hts gX9_rank_X9_of rfl rfl rfl (by decide +kernel) ⟨Nat.le_of_ble_eq_true rfl, Nat.le_of_ble_eq_true rfl⟩) X0_blind (fun _ _ _ => trivial) hP hK hD hS hA hl [0, 1, 2, 3, 4, 5] rfl rfl 0 7 rfl rfl rfl rfl rfl (Nat.le_of_ble_eq_true rfl) dX9_rank_52 ⟨Nat.zero_le _, Nat.zero_le _⟩ (fun _ => rfl) (fun u_ H locs hk6 hP hD hS => ?_)
      obtain ⟨r_6, e_r_6⟩ : ∃ z, z = u_ := ⟨_, rfl⟩
      subst e_r_6
      have hP : va_P D vwCl [(o, .inr (7, [.ref q1, .ref q2, .ref q3, .int st, .ref q4, .int ln, .int ps, .int (bi fm), .int rs, .ref q5])), (q1, .inl (cI, 314, .inl S)), (q2, .inl (cI, 314, .inl Bg)), (q3, .inl (cI, 1256, .inl Pa)), (q4, .inl (cI, 80, .inl Tx)), (q5, .inl (cI, 5, .inl Nu))] H := hP
      have hD : va_D Fr [(o, .inr (7, [.ref q1, .ref q2, .ref q3, .int st, .ref q4, .int ln, .int ps, .int (bi fm), .int rs, .ref q5])), (q1, .inl (cI, 314, .inl S)), (q2, .inl (cI, 314, .inl Bg)), (q3, .inl (cI, 1256, .inl Pa)), (q4, .inl (cI, 80, .inl Tx)), (q5, .inl (cI, 5, .inl Nu))] := hD
      refine W.eq (g2 := F0 m 55 ls [.int r_6, .ref o]) rfl ?_
      refine callVi (As := [.int r_6]) (rest := []) (mX9_wantedIn l D cI cC cS _ o q1 q2 q3 q4 q5 S Bg Pa Tx Nu st ln ps fm rs r_6 (hk6 ▸ ho.2.2 _ hfa)) ⟨hx, hb, hml, hown, hts⟩ (cwV 1 hts gX9_rank_X9_wantedIn rfl rfl rfl (by decide +kernel) ⟨Nat.le_of_ble_eq_true rfl, Nat.le_of_ble_eq_true rfl⟩) X0_blind (fun _ _ _ => trivial) hP hK hD hS hA hl [0, 1, 2, 3, 4, 5] rfl rfl 0 7 rfl rfl rfl rfl rfl (Nat.le_of_ble_eq_true rfl) dX9_rank_55 ⟨Nat.zero_le _, Nat.zero_le _⟩ (fun _ => rfl) (fun u_ H locs hk8 hP hD hS => ?_)
      obtain ⟨r_8, e_r_8⟩ : ∃ z, z = u_ := ⟨_, rfl⟩
      subst e_r_8
      have hP : va_P D vwCl [(o, .inr (7, [.ref q1, .ref q2, .ref q3, .int st, .ref q4, .int ln, .int ps, .int (bi fm), .int rs, .ref q5])), (q1, .inl (cI, 314, .inl S)), (q2, .inl (cI, 314, .inl Bg)), (q3, .inl (cI, 1256, .inl Pa)), (q4, .inl (cI, 80, .inl Tx)), (q5, .inl (cI, 5, .inl Nu))] H := hP
      have hD : va_D Fr [(o, .inr (7, [.ref q1, .ref q2, .ref q3, .int st, .ref q4, .int ln, .int ps, .int (bi fm), .int rs, .ref q5])), (q1, .inl (cI, 314, .inl S)), (q2, .inl (cI, 314, .inl Bg)), (q3, .inl (cI, 1256, .inl Pa)), (q4, .inl (cI, 80, .inl Tx)), (q5, .inl (cI, 5, .inl Nu))] := hD
      refine W.eq (g2 := F0 m 58 ls [.int r_8]) rfl ?_
      refine lv_if_le (tgt := 65) hx hb dX9_rank_58 (by decide) (fun c58 => ?_) (fun c58 => ?_)
      · refine lv_iconst (v := 1) hx hb dX9_rank_65 (by decide) ?_
        refine lv_istore (lv' := [(5, .int 1), (4, .int 1), (3, .int f), (0, .ref o), (1, .int address), (2, .int who)]) hx hb dX9_rank_66 hl (by decide) rfl (fun ls hl => ?_)
        refine lv_iconst (v := 4) hx hb dX9_rank_68 (by decide) ?_
        refine lv_iload_n hx hb dX9_rank_69 rfl (lv_at hl 2 rfl) ?_
        refine lv_imul hx hb dX9_rank_70 ?_
        refine lv_iconst (v := 2) hx hb dX9_rank_71 (by decide) ?_
        refine lv_iload hx hb dX9_rank_72 (lv_at hl 1 rfl) ?_
        refine lv_imul hx hb dX9_rank_74 ?_
        refine lv_iadd hx hb dX9_rank_75 ?_
        refine lv_iload hx hb dX9_rank_76 (lv_at hl 0 rfl) ?_
        refine lv_iadd hx hb dX9_rank_78 ?_
        exact endI hx hb hr hlk hP hK hD hS dX9_rank_79 (((4 * f) + (2 * 1)) + 1) rfl ⟨(E_25).trans ((bd1_e hk2).trans ((bd1_e hk4).trans ((if_neg c38).trans ((bd1_e hk6).trans ((bd1_e hk8).trans ((if_pos c58).trans rfl)))))), rfl⟩
      · refine lv_iconst (v := 0) hx hb dX9_rank_61 (by decide) ?_
        refine lv_goto (tgt := 66) hx hb dX9_rank_62 (by decide) ?_
        refine lv_istore (lv' := [(5, .int 0), (4, .int 1), (3, .int f), (0, .ref o), (1, .int address), (2, .int who)]) hx hb dX9_rank_66 hl (by decide) rfl (fun ls hl => ?_)
        refine lv_iconst (v := 4) hx hb dX9_rank_68 (by decide) ?_
        refine lv_iload_n hx hb dX9_rank_69 rfl (lv_at hl 2 rfl) ?_
        refine lv_imul hx hb dX9_rank_70 ?_
        refine lv_iconst (v := 2) hx hb dX9_rank_71 (by decide) ?_
        refine lv_iload hx hb dX9_rank_72 (lv_at hl 1 rfl) ?_
        refine lv_imul hx hb dX9_rank_74 ?_
        refine lv_iadd hx hb dX9_rank_75 ?_
        refine lv_iload hx hb dX9_rank_76 (lv_at hl 0 rfl) ?_
        refine lv_iadd hx hb dX9_rank_78 ?_
        exact endI hx hb hr hlk hP hK hD hS dX9_rank_79 (((4 * f) + (2 * 1)) + 0) rfl ⟨(E_25).trans ((bd1_e hk2).trans ((bd1_e hk4).trans ((if_neg c38).trans ((bd1_e hk6).trans ((bd1_e hk8).trans ((if_neg c58).trans rfl)))))), rfl⟩
    · refine lv_iconst (v := 0) hx hb dX9_rank_41 (by decide) ?_
      refine lv_goto (tgt := 46) hx hb dX9_rank_42 (by decide) ?_
      refine lv_istore (lv' := [(4, .int 0), (3, .int f), (0, .ref o), (1, .int address), (2, .int who)]) hx hb dX9_rank_46 hl (by decide) rfl (fun ls hl => ?_)
      refine lv_aload_n hx hb dX9_rank_48 rfl (lv_at hl 2 rfl) ?_
      refine lv_aload_n hx hb dX9_rank_49 rfl (lv_at hl 2 rfl) ?_
      refine lv_iload_n hx hb dX9_rank_50 rfl (lv_at hl 3 rfl) ?_
      refine lv_iconst (v := 0) hx hb dX9_rank_51 (by decide) ?_
      refine callVi (As := [.int address, .int 0]) (rest := [.ref o]) (mX9_of l D cI cC cS _ o q1 q2 q3 q4 q5 S Bg Pa Tx Nu st ln ps fm rs address 0 hfa (vp_d rfl)) ⟨hx, hb, hml, hown, hts⟩ (cwV 2 hts gX9_rank_X9_of rfl rfl rfl (by decide +kernel) ⟨Nat.le_of_ble_eq_true rfl, Nat.le_of_ble_eq_true rfl⟩) X0_blind (fun _ _ _ => trivial) hP hK hD hS hA hl [0, 1, 2, 3, 4, 5] rfl rfl 0 7 rfl rfl rfl rfl rfl (Nat.le_of_ble_eq_true rfl) dX9_rank_52 ⟨Nat.zero_le _, Nat.zero_le _⟩ (fun _ => rfl) (fun u_ H locs hk10 hP hD hS => ?_)
      obtain ⟨r_10, e_r_10⟩ : ∃ z, z = u_ := ⟨_, rfl⟩
      subst e_r_10
      have hP : va_P D vwCl [(o, .inr (7, [.ref q1, .ref q2, .ref q3, .int st, .ref q4, .int ln, .int ps, .int (bi fm), .int rs, .ref q5])), (q1, .inl (cI, 314, .inl S)), (q2, .inl (cI, 314, .inl Bg)), (q3, .inl (cI, 1256, .inl Pa)), (q4, .inl (cI, 80, .inl Tx)), (q5, .inl (cI, 5, .inl Nu))] H := hP
      have hD : va_D Fr [(o, .inr (7, [.ref q1, .ref q2, .ref q3, .int st, .ref q4, .int ln, .int ps, .int (bi fm), .int rs, .ref q5])), (q1, .inl (cI, 314, .inl S)), (q2, .inl (cI, 314, .inl Bg)), (q3, .inl (cI, 1256, .inl Pa)), (q4, .inl (cI, 80, .inl Tx)), (q5, .inl (cI, 5, .inl Nu))] := hD
      refine W.eq (g2 := F0 m 55 ls [.int r_10, .ref o]) rfl ?_
      refine callVi (As := [.int r_10]) (rest := []) (mX9_wantedIn l D cI cC cS _ o q1 q2 q3 q4 q5 S Bg Pa Tx Nu st ln ps fm rs r_10 (hk10 ▸ ho.2.2 _ hfa)) ⟨hx, hb, hml, hown, hts⟩ (cwV 1 hts gX9_rank_X9_wantedIn rfl rfl rfl (by decide +kernel) ⟨Nat.le_of_ble_eq_true rfl, Nat.le_of_ble_eq_true rfl⟩) X0_blind (fun _ _ _ => trivial) hP hK hD hS hA hl [0, 1, 2, 3, 4, 5] rfl rfl 0 7 rfl rfl rfl rfl rfl (Nat.le_of_ble_eq_true rfl) dX9_rank_55 ⟨Nat.zero_le _, Nat.zero_le _⟩ (fun _ => rfl) (fun u_ H locs hk12 hP hD hS => ?_)
      obtain ⟨r_12, e_r_12⟩ : ∃ z, z = u_ := ⟨_, rfl⟩
      subst e_r_12
      have hP : va_P D vwCl [(o, .inr (7, [.ref q1, .ref q2, .ref q3, .int st, .ref q4, .int ln, .int ps, .int (bi fm), .int rs, .ref q5])), (q1, .inl (cI, 314, .inl S)), (q2, .inl (cI, 314, .inl Bg)), (q3, .inl (cI, 1256, .inl Pa)), (q4, .inl (cI, 80, .inl Tx)), (q5, .inl (cI, 5, .inl Nu))] H := hP
      have hD : va_D Fr [(o, .inr (7, [.ref q1, .ref q2, .ref q3, .int st, .ref q4, .int ln, .int ps, .int (bi fm), .int rs, .ref q5])), (q1, .inl (cI, 314, .inl S)), (q2, .inl (cI, 314, .inl Bg)), (q3, .inl (cI, 1256, .inl Pa)), (q4, .inl (cI, 80, .inl Tx)), (q5, .inl (cI, 5, .inl Nu))] := hD
      refine W.eq (g2 := F0 m 58 ls [.int r_12]) rfl ?_
      refine lv_if_le (tgt := 65) hx hb dX9_rank_58 (by decide) (fun c58 => ?_) (fun c58 => ?_)
      · refine lv_iconst (v := 1) hx hb dX9_rank_65 (by decide) ?_
        refine lv_istore (lv' := [(5, .int 1), (4, .int 0), (3, .int f), (0, .ref o), (1, .int address), (2, .int who)]) hx hb dX9_rank_66 hl (by decide) rfl (fun ls hl => ?_)
        refine lv_iconst (v := 4) hx hb dX9_rank_68 (by decide) ?_
        refine lv_iload_n hx hb dX9_rank_69 rfl (lv_at hl 2 rfl) ?_
        refine lv_imul hx hb dX9_rank_70 ?_
        refine lv_iconst (v := 2) hx hb dX9_rank_71 (by decide) ?_
        refine lv_iload hx hb dX9_rank_72 (lv_at hl 1 rfl) ?_
        refine lv_imul hx hb dX9_rank_74 ?_
        refine lv_iadd hx hb dX9_rank_75 ?_
        refine lv_iload hx hb dX9_rank_76 (lv_at hl 0 rfl) ?_
        refine lv_iadd hx hb dX9_rank_78 ?_
        exact endI hx hb hr hlk hP hK hD hS dX9_rank_79 (((4 * f) + (2 * 0)) + 1) rfl ⟨(E_25).trans ((bd1_e hk2).trans ((bd1_e hk4).trans ((if_pos c38).trans ((bd1_e hk10).trans ((bd1_e hk12).trans ((if_pos c58).trans rfl)))))), rfl⟩
      · refine lv_iconst (v := 0) hx hb dX9_rank_61 (by decide) ?_
        refine lv_goto (tgt := 66) hx hb dX9_rank_62 (by decide) ?_
        refine lv_istore (lv' := [(5, .int 0), (4, .int 0), (3, .int f), (0, .ref o), (1, .int address), (2, .int who)]) hx hb dX9_rank_66 hl (by decide) rfl (fun ls hl => ?_)
        refine lv_iconst (v := 4) hx hb dX9_rank_68 (by decide) ?_
        refine lv_iload_n hx hb dX9_rank_69 rfl (lv_at hl 2 rfl) ?_
        refine lv_imul hx hb dX9_rank_70 ?_
        refine lv_iconst (v := 2) hx hb dX9_rank_71 (by decide) ?_
        refine lv_iload hx hb dX9_rank_72 (lv_at hl 1 rfl) ?_
        refine lv_imul hx hb dX9_rank_74 ?_
        refine lv_iadd hx hb dX9_rank_75 ?_
        refine lv_iload hx hb dX9_rank_76 (lv_at hl 0 rfl) ?_
        refine lv_iadd hx hb dX9_rank_78 ?_
        exact endI hx hb hr hlk hP hK hD hS dX9_rank_79 (((4 * f) + (2 * 0)) + 0) rfl ⟨(E_25).trans ((bd1_e hk2).trans ((bd1_e hk4).trans ((if_pos c38).trans ((bd1_e hk10).trans ((bd1_e hk12).trans ((if_neg c58).trans rfl)))))), rfl⟩
  refine lv_aload_n hx hb dX9_rank_0 rfl (lv_at hl 0 rfl) ?_
  refine lv_iload_n hx hb dX9_rank_1 rfl (lv_at hl 1 rfl) ?_
  refine callVi (As := [.int address]) (rest := []) (mX9_isFixed l D cI cC cS _ o q1 q2 q3 q4 q5 S Bg Pa Tx Nu st ln ps fm rs address hfa) ⟨hx, hb, hml, hown, hts⟩ (cwV 1 hts gX9_rank_X9_isFixed rfl rfl rfl (by decide +kernel) ⟨Nat.le_of_ble_eq_true rfl, Nat.le_of_ble_eq_true rfl⟩) X0_blind (fun _ _ _ => trivial) hP hK hD hS hA hl [0, 1, 2, 3, 4, 5] rfl rfl 0 7 rfl rfl rfl rfl rfl (Nat.le_of_ble_eq_true rfl) dX9_rank_2 ⟨Nat.zero_le _, Nat.zero_le _⟩ (fun _ => rfl) (fun u_ H locs hk14 hP hD hS => ?_)
  obtain ⟨r_14, e_r_14⟩ : ∃ z, z = u_ := ⟨_, rfl⟩
  subst e_r_14
  have hP : va_P D vwCl [(o, .inr (7, [.ref q1, .ref q2, .ref q3, .int st, .ref q4, .int ln, .int ps, .int (bi fm), .int rs, .ref q5])), (q1, .inl (cI, 314, .inl S)), (q2, .inl (cI, 314, .inl Bg)), (q3, .inl (cI, 1256, .inl Pa)), (q4, .inl (cI, 80, .inl Tx)), (q5, .inl (cI, 5, .inl Nu))] H := hP
  have hD : va_D Fr [(o, .inr (7, [.ref q1, .ref q2, .ref q3, .int st, .ref q4, .int ln, .int ps, .int (bi fm), .int rs, .ref q5])), (q1, .inl (cI, 314, .inl S)), (q2, .inl (cI, 314, .inl Bg)), (q3, .inl (cI, 1256, .inl Pa)), (q4, .inl (cI, 80, .inl Tx)), (q5, .inl (cI, 5, .inl Nu))] := hD
  refine W.eq (g2 := F0 m 5 ls [.int (bi r_14)]) rfl ?_
  refine lv_if_ne (tgt := 12) hx hb dX9_rank_5 (by decide) (fun c5 => ?_) (fun c5 => ?_)
  · refine lv_aload_n hx hb dX9_rank_12 rfl (lv_at hl 0 rfl) ?_
    refine lv_iload_n hx hb dX9_rank_13 rfl (lv_at hl 1 rfl) ?_
    refine callVi (As := [.int address]) (rest := []) (mX9_isOver l D cI cC cS _ o q1 q2 q3 q4 q5 S Bg Pa Tx Nu st ln ps fm rs address hfa) ⟨hx, hb, hml, hown, hts⟩ (cwV 1 hts gX9_rank_X9_isOver rfl rfl rfl (by decide +kernel) ⟨Nat.le_of_ble_eq_true rfl, Nat.le_of_ble_eq_true rfl⟩) X0_blind (fun _ _ _ => trivial) hP hK hD hS hA hl [0, 1, 2, 3, 4, 5] rfl rfl 0 7 rfl rfl rfl rfl rfl (Nat.le_of_ble_eq_true rfl) dX9_rank_14 ⟨Nat.zero_le _, Nat.zero_le _⟩ (fun _ => rfl) (fun u_ H locs hk16 hP hD hS => ?_)
    obtain ⟨r_16, e_r_16⟩ : ∃ z, z = u_ := ⟨_, rfl⟩
    subst e_r_16
    have hP : va_P D vwCl [(o, .inr (7, [.ref q1, .ref q2, .ref q3, .int st, .ref q4, .int ln, .int ps, .int (bi fm), .int rs, .ref q5])), (q1, .inl (cI, 314, .inl S)), (q2, .inl (cI, 314, .inl Bg)), (q3, .inl (cI, 1256, .inl Pa)), (q4, .inl (cI, 80, .inl Tx)), (q5, .inl (cI, 5, .inl Nu))] H := hP
    have hD : va_D Fr [(o, .inr (7, [.ref q1, .ref q2, .ref q3, .int st, .ref q4, .int ln, .int ps, .int (bi fm), .int rs, .ref q5])), (q1, .inl (cI, 314, .inl S)), (q2, .inl (cI, 314, .inl Bg)), (q3, .inl (cI, 1256, .inl Pa)), (q4, .inl (cI, 80, .inl Tx)), (q5, .inl (cI, 5, .inl Nu))] := hD
    refine W.eq (g2 := F0 m 17 ls [.int (bi r_16)]) rfl ?_
    refine lv_if_eq (tgt := 24) hx hb dX9_rank_17 (by decide) (fun c17 => ?_) (fun c17 => ?_)
    · refine lv_iconst (v := 0) hx hb dX9_rank_24 (by decide) ?_
      exact K_25 0 _ _ ls hP hD hS (lv_sub hl [0, 1, 2] rfl) ((bd1_e hk14).trans ((if_pos (bi_o c5)).trans ((bd1_e hk16).trans ((if_neg (bi_z c17)).trans rfl))))
    · refine lv_iconst (v := 1) hx hb dX9_rank_20 (by decide) ?_
      refine lv_goto (tgt := 25) hx hb dX9_rank_21 (by decide) ?_
      exact K_25 1 _ _ ls hP hD hS (lv_sub hl [0, 1, 2] rfl) ((bd1_e hk14).trans ((if_pos (bi_o c5)).trans ((bd1_e hk16).trans ((if_pos (bi_o c17)).trans rfl))))
  · refine lv_iconst (v := 2) hx hb dX9_rank_8 (by decide) ?_
    refine lv_goto (tgt := 25) hx hb dX9_rank_9 (by decide) ?_
    exact K_25 2 _ _ ls hP hD hS (lv_sub hl [0, 1, 2] rfl) ((bd1_e hk14).trans ((if_neg (bi_z c5)).trans rfl))


/-- the value of X9_isAhead, path by path -/
def fX9_isAhead (S : Nat → Int32) (one : Int32) (other : Int32) (who : Int32) : Bool :=
  bd1 (fX9_rank S one who) (fun (r_2 : Int32) => bd1 (fX9_rank S other who) (fun (r_4 : Int32) => bd1 (fX9_of S one 2) (fun (r_6 : Int32) => bd1 (fX9_of S other 2) (fun (r_8 : Int32) => bd1 (r_6 - r_8) (fun (y_9 : Int32) => (if r_2 < r_4 then true else (if r_2 = r_4 then (if y_9 < 0 then true else (if y_9 = 0 then (if other ≤ one then false else true) else false)) else false)))))))

set_option maxHeartbeats 4000000 in
set_option maxRecDepth 100000 in
/-- X9_isAhead -/
theorem mX9_isAhead (l : Launch) (D : va_G) (cI cC cS : ClassId) (sz : Nat) (o : Nat) (q1 : Nat) (q2 : Nat) (q3 : Nat) (q4 : Nat) (q5 : Nat) (S : Nat → Int32) (Bg : Nat → Int32) (Pa : Nat → Int32) (Tx : Nat → Int32) (Nu : Nat → Int32) (st : Int32) (ln : Int32) (ps : Int32) (fm : Bool) (rs : Int32) (one : Int32) (other : Int32) (who : Int32) (h1 : vp_in one 24) (h2 : vp_in other 24) (hfw : vp_in who 5) (ho : okS S) : Met l yX9_isAhead wsX9_isAhead ({ frames := 5, cells := 0, slots := 0, locals := 110 } : Jvm.Room) (va_Pc [.ref o, .int one, .int other, .int who] (wPre D (TY cI cC cS) [(o, .inr (7, [.ref q1, .ref q2, .ref q3, .int st, .ref q4, .int ln, .int ps, .int (bi fm), .int rs, .ref q5])), (q1, .inl (cI, 314, .inl S)), (q2, .inl (cI, 314, .inl Bg)), (q3, .inl (cI, 1256, .inl Pa)), (q4, .inl (cI, 80, .inl Tx)), (q5, .inl (cI, 5, .inl Nu))] sz X0)) (qI D (TY cI cC cS) (fun (r : Int32) (u : Bool) => fX9_isAhead S one other who = u ∧ r = bi u) (fun u => [(o, .inr (7, [.ref q1, .ref q2, .ref q3, .int st, .ref q4, .int ln, .int ps, .int (bi fm), .int rs, .ref q5])), (q1, .inl (cI, 314, .inl S)), (q2, .inl (cI, 314, .inl Bg)), (q3, .inl (cI, 1256, .inl Pa)), (q4, .inl (cI, 80, .inl Tx)), (q5, .inl (cI, 5, .inl Nu))]) (va_A [(o, .inr (7, [.ref q1, .ref q2, .ref q3, .int st, .ref q4, .int ln, .int ps, .int (bi fm), .int rs, .ref q5])), (q1, .inl (cI, 314, .inl S)), (q2, .inl (cI, 314, .inl Bg)), (q3, .inl (cI, 1256, .inl Pa)), (q4, .inl (cI, 80, .inl Tx)), (q5, .inl (cI, 5, .inl Nu))] sz)) 0 0 (va_A [(o, .inr (7, [.ref q1, .ref q2, .ref q3, .int st, .ref q4, .int ln, .int ps, .int (bi fm), .int rs, .ref q5])), (q1, .inl (cI, 314, .inl S)), (q2, .inl (cI, 314, .inl Bg)), (q3, .inl (cI, 1256, .inl Pa)), (q4, .inl (cI, 80, .inl Tx)), (q5, .inl (cI, 5, .inl Nu))] sz) := by
  refine mkM (fun Fr => qI D (TY cI cC cS) (fun (r : Int32) (u : Bool) => fX9_isAhead S one other who = u ∧ r = bi u) (fun u => [(o, .inr (7, [.ref q1, .ref q2, .ref q3, .int st, .ref q4, .int ln, .int ps, .int (bi fm), .int rs, .ref q5])), (q1, .inl (cI, 314, .inl S)), (q2, .inl (cI, 314, .inl Bg)), (q3, .inl (cI, 1256, .inl Pa)), (q4, .inl (cI, 80, .inl Tx)), (q5, .inl (cI, 5, .inl Nu))]) Fr) (cc := cX9_isAhead) (maxL := 7) (ret := (some .boolean)) (own := RX9) (lv := [(0, .ref o), (1, .int one), (2, .int other), (3, .int who)]) (by decide) rfl rfl (Nat.le_of_ble_eq_true rfl) rfl ?_
  intro p e s m below meth c Fr ls hx hb hr hts hown hml hlk hin hP hK hD hS hA hAe hsz hX hl
  refine lv_aload_n hx hb dX9_isAhead_0 rfl (lv_at hl 0 rfl) ?_
  refine lv_iload_n hx hb dX9_isAhead_1 rfl (lv_at hl 1 rfl) ?_
  refine lv_iload_n hx hb dX9_isAhead_2 rfl (lv_at hl 3 rfl) ?_
  refine callVi (As := [.int one, .int who]) (rest := []) (mX9_rank l D cI cC cS _ o q1 q2 q3 q4 q5 S Bg Pa Tx Nu st ln ps fm rs one who h1 hfw ho) ⟨hx, hb, hml, hown, hts⟩ (cwV 2 hts gX9_isAhead_X9_rank rfl rfl rfl (by decide +kernel) ⟨Nat.le_of_ble_eq_true rfl, Nat.le_of_ble_eq_true rfl⟩) X0_blind (fun _ _ _ => trivial) hP hK hD hS hA hl [0, 1, 2, 3, 4, 5] rfl rfl 0 7 rfl rfl rfl rfl rfl (Nat.le_of_ble_eq_true rfl) dX9_isAhead_3 ⟨Nat.zero_le _, Nat.zero_le _⟩ (fun _ => rfl) (fun u_ H locs hk2 hP hD hS => ?_)
  obtain ⟨r_2, e_r_2⟩ : ∃ z, z = u_ := ⟨_, rfl⟩
  subst e_r_2
  have hP : va_P D vwCl [(o, .inr (7, [.ref q1, .ref q2, .ref q3, .int st, .ref q4, .int ln, .int ps, .int (bi fm), .int rs, .ref q5])), (q1, .inl (cI, 314, .inl S)), (q2, .inl (cI, 314, .inl Bg)), (q3, .inl (cI, 1256, .inl Pa)), (q4, .inl (cI, 80, .inl Tx)), (q5, .inl (cI, 5, .inl Nu))] H := hP
  have hD : va_D Fr [(o, .inr (7, [.ref q1, .ref q2, .ref q3, .int st, .ref q4, .int ln, .int ps, .int (bi fm), .int rs, .ref q5])), (q1, .inl (cI, 314, .inl S)), (q2, .inl (cI, 314, .inl Bg)), (q3, .inl (cI, 1256, .inl Pa)), (q4, .inl (cI, 80, .inl Tx)), (q5, .inl (cI, 5, .inl Nu))] := hD
  refine W.eq (g2 := F0 m 6 ls [.int r_2]) rfl ?_
  refine lv_istore (lv' := [(4, .int r_2), (0, .ref o), (1, .int one), (2, .int other), (3, .int who)]) hx hb dX9_isAhead_6 hl (by decide) rfl (fun ls hl => ?_)
  refine lv_aload_n hx hb dX9_isAhead_8 rfl (lv_at hl 1 rfl) ?_
  refine lv_iload_n hx hb dX9_isAhead_9 rfl (lv_at hl 3 rfl) ?_
  refine lv_iload_n hx hb dX9_isAhead_10 rfl (lv_at hl 4 rfl) ?_
  refine callVi (As := [.int other, .int who]) (rest := []) (mX9_rank l D cI cC cS _ o q1 q2 q3 q4 q5 S Bg Pa Tx Nu st ln ps fm rs other who h2 hfw ho) ⟨hx, hb, hml, hown, hts⟩ (cwV 2 hts gX9_isAhead_X9_rank rfl rfl rfl (by decide +kernel) ⟨Nat.le_of_ble_eq_true rfl, Nat.le_of_ble_eq_true rfl⟩) X0_blind (fun _ _ _ => trivial) hP hK hD hS hA hl [0, 1, 2, 3, 4, 5] rfl rfl 0 7 rfl rfl rfl rfl rfl (Nat.le_of_ble_eq_true rfl) dX9_isAhead_11 ⟨Nat.zero_le _, Nat.zero_le _⟩ (fun _ => rfl) (fun u_ H locs hk4 hP hD hS => ?_)
  obtain ⟨r_4, e_r_4⟩ : ∃ z, z = u_ := ⟨_, rfl⟩
  subst e_r_4
  have hP : va_P D vwCl [(o, .inr (7, [.ref q1, .ref q2, .ref q3, .int st, .ref q4, .int ln, .int ps, .int (bi fm), .int rs, .ref q5])), (q1, .inl (cI, 314, .inl S)), (q2, .inl (cI, 314, .inl Bg)), (q3, .inl (cI, 1256, .inl Pa)), (q4, .inl (cI, 80, .inl Tx)), (q5, .inl (cI, 5, .inl Nu))] H := hP
  have hD : va_D Fr [(o, .inr (7, [.ref q1, .ref q2, .ref q3, .int st, .ref q4, .int ln, .int ps, .int (bi fm), .int rs, .ref q5])), (q1, .inl (cI, 314, .inl S)), (q2, .inl (cI, 314, .inl Bg)), (q3, .inl (cI, 1256, .inl Pa)), (q4, .inl (cI, 80, .inl Tx)), (q5, .inl (cI, 5, .inl Nu))] := hD
  refine W.eq (g2 := F0 m 14 ls [.int r_4]) rfl ?_
  refine lv_istore (lv' := [(5, .int r_4), (4, .int r_2), (0, .ref o), (1, .int one), (2, .int other), (3, .int who)]) hx hb dX9_isAhead_14 hl (by decide) rfl (fun ls hl => ?_)
  refine lv_aload_n hx hb dX9_isAhead_16 rfl (lv_at hl 2 rfl) ?_
  refine lv_iload_n hx hb dX9_isAhead_17 rfl (lv_at hl 3 rfl) ?_
  refine lv_iconst (v := 2) hx hb dX9_isAhead_18 (by decide) ?_
  refine callVi (As := [.int one, .int 2]) (rest := []) (mX9_of l D cI cC cS _ o q1 q2 q3 q4 q5 S Bg Pa Tx Nu st ln ps fm rs one 2 h1 (vp_d rfl)) ⟨hx, hb, hml, hown, hts⟩ (cwV 2 hts gX9_isAhead_X9_of rfl rfl rfl (by decide +kernel) ⟨Nat.le_of_ble_eq_true rfl, Nat.le_of_ble_eq_true rfl⟩) X0_blind (fun _ _ _ => trivial) hP hK hD hS hA hl [0, 1, 2, 3, 4, 5] rfl rfl 0 7 rfl rfl rfl rfl rfl (Nat.le_of_ble_eq_true rfl) dX9_isAhead_19 ⟨Nat.zero_le _, Nat.zero_le _⟩ (fun _ => rfl) (fun u_ H locs hk6 hP hD hS => ?_)
  obtain ⟨r_6, e_r_6⟩ : ∃ z, z = u_ := ⟨_, rfl⟩
  subst e_r_6
  have hP : va_P D vwCl [(o, .inr (7, [.ref q1, .ref q2, .ref q3, .int st, .ref q4, .int ln, .int ps, .int (bi fm), .int rs, .ref q5])), (q1, .inl (cI, 314, .inl S)), (q2, .inl (cI, 314, .inl Bg)), (q3, .inl (cI, 1256, .inl Pa)), (q4, .inl (cI, 80, .inl Tx)), (q5, .inl (cI, 5, .inl Nu))] H := hP
  have hD : va_D Fr [(o, .inr (7, [.ref q1, .ref q2, .ref q3, .int st, .ref q4, .int ln, .int ps, .int (bi fm), .int rs, .ref q5])), (q1, .inl (cI, 314, .inl S)), (q2, .inl (cI, 314, .inl Bg)), (q3, .inl (cI, 1256, .inl Pa)), (q4, .inl (cI, 80, .inl Tx)), (q5, .inl (cI, 5, .inl Nu))] := hD
  refine W.eq (g2 := F0 m 22 ls [.int r_6]) rfl ?_
  refine lv_aload_n hx hb dX9_isAhead_22 rfl (lv_at hl 2 rfl) ?_
  refine lv_iload_n hx hb dX9_isAhead_23 rfl (lv_at hl 4 rfl) ?_
  refine lv_iconst (v := 2) hx hb dX9_isAhead_24 (by decide) ?_
  refine callVi (As := [.int other, .int 2]) (rest := [.int r_6]) (mX9_of l D cI cC cS _ o q1 q2 q3 q4 q5 S Bg Pa Tx Nu st ln ps fm rs other 2 h2 (vp_d rfl)) ⟨hx, hb, hml, hown, hts⟩ (cwV 2 hts gX9_isAhead_X9_of rfl rfl rfl (by decide +kernel) ⟨Nat.le_of_ble_eq_true rfl, Nat.le_of_ble_eq_true rfl⟩) X0_blind (fun _ _ _ => trivial) hP hK hD hS hA hl [0, 1, 2, 3, 4, 5] rfl rfl 0 7 rfl rfl rfl rfl rfl (Nat.le_of_ble_eq_true rfl) dX9_isAhead_25 ⟨Nat.zero_le _, Nat.zero_le _⟩ (fun _ => rfl) (fun u_ H locs hk8 hP hD hS => ?_)
  obtain ⟨r_8, e_r_8⟩ : ∃ z, z = u_ := ⟨_, rfl⟩
  subst e_r_8
  have hP : va_P D vwCl [(o, .inr (7, [.ref q1, .ref q2, .ref q3, .int st, .ref q4, .int ln, .int ps, .int (bi fm), .int rs, .ref q5])), (q1, .inl (cI, 314, .inl S)), (q2, .inl (cI, 314, .inl Bg)), (q3, .inl (cI, 1256, .inl Pa)), (q4, .inl (cI, 80, .inl Tx)), (q5, .inl (cI, 5, .inl Nu))] H := hP
  have hD : va_D Fr [(o, .inr (7, [.ref q1, .ref q2, .ref q3, .int st, .ref q4, .int ln, .int ps, .int (bi fm), .int rs, .ref q5])), (q1, .inl (cI, 314, .inl S)), (q2, .inl (cI, 314, .inl Bg)), (q3, .inl (cI, 1256, .inl Pa)), (q4, .inl (cI, 80, .inl Tx)), (q5, .inl (cI, 5, .inl Nu))] := hD
  refine W.eq (g2 := F0 m 28 ls [.int r_8, .int r_6]) rfl ?_
  refine lv_isub hx hb dX9_isAhead_28 ?_
  refine lv_topi (fun y_9 ey_9 => ?_)
  refine lv_istore (lv' := [(6, .int y_9), (5, .int r_4), (4, .int r_2), (0, .ref o), (1, .int one), (2, .int other), (3, .int who)]) hx hb dX9_isAhead_29 hl (by decide) rfl (fun ls hl => ?_)
  refine lv_iload hx hb dX9_isAhead_31 (lv_at hl 2 rfl) ?_
  refine lv_iload hx hb dX9_isAhead_33 (lv_at hl 1 rfl) ?_
  refine lv_icmp_lt (tgt := 60) hx hb dX9_isAhead_35 (by decide) (fun c35 => ?_) (fun c35 => ?_)
  · refine lv_iconst (v := 1) hx hb dX9_isAhead_60 (by decide) ?_
    refine lv_goto (tgt := 65) hx hb dX9_isAhead_61 (by decide) ?_
    exact endZ hx hb hr hlk hP hK hD hS dX9_isAhead_65 rfl true rfl ⟨(bd1_e hk2).trans ((bd1_e hk4).trans ((bd1_e hk6).trans ((bd1_e hk8).trans ((bd1_n ey_9).trans ((if_pos c35).trans rfl))))), rfl⟩
  · refine lv_iload hx hb dX9_isAhead_38 (lv_at hl 2 rfl) ?_
    refine lv_iload hx hb dX9_isAhead_40 (lv_at hl 1 rfl) ?_
    refine lv_icmp_ne (tgt := 64) hx hb dX9_isAhead_42 (by decide) (fun c42 => ?_) (fun c42 => ?_)
    · refine lv_iconst (v := 0) hx hb dX9_isAhead_64 (by decide) ?_
      exact endZ hx hb hr hlk hP hK hD hS dX9_isAhead_65 rfl false rfl ⟨(bd1_e hk2).trans ((bd1_e hk4).trans ((bd1_e hk6).trans ((bd1_e hk8).trans ((bd1_n ey_9).trans ((if_neg c35).trans ((if_neg c42).trans rfl)))))), rfl⟩
    · refine lv_iload hx hb dX9_isAhead_45 (lv_at hl 0 rfl) ?_
      refine lv_if_lt (tgt := 60) hx hb dX9_isAhead_47 (by decide) (fun c47 => ?_) (fun c47 => ?_)
      · refine lv_iconst (v := 1) hx hb dX9_isAhead_60 (by decide) ?_
        refine lv_goto (tgt := 65) hx hb dX9_isAhead_61 (by decide) ?_
        exact endZ hx hb hr hlk hP hK hD hS dX9_isAhead_65 rfl true rfl ⟨(bd1_e hk2).trans ((bd1_e hk4).trans ((bd1_e hk6).trans ((bd1_e hk8).trans ((bd1_n ey_9).trans ((if_neg c35).trans ((if_pos c42).trans ((if_pos c47).trans rfl))))))), rfl⟩
      · refine lv_iload hx hb dX9_isAhead_50 (lv_at hl 0 rfl) ?_
        refine lv_if_ne (tgt := 64) hx hb dX9_isAhead_52 (by decide) (fun c52 => ?_) (fun c52 => ?_)
        · refine lv_iconst (v := 0) hx hb dX9_isAhead_64 (by decide) ?_
          exact endZ hx hb hr hlk hP hK hD hS dX9_isAhead_65 rfl false rfl ⟨(bd1_e hk2).trans ((bd1_e hk4).trans ((bd1_e hk6).trans ((bd1_e hk8).trans ((bd1_n ey_9).trans ((if_neg c35).trans ((if_pos c42).trans ((if_neg c47).trans ((if_neg c52).trans rfl)))))))), rfl⟩
        · refine lv_iload_n hx hb dX9_isAhead_55 rfl (lv_at hl 4 rfl) ?_
          refine lv_iload_n hx hb dX9_isAhead_56 rfl (lv_at hl 5 rfl) ?_
          refine lv_icmp_ge (tgt := 64) hx hb dX9_isAhead_57 (by decide) (fun c57 => ?_) (fun c57 => ?_)
          · refine lv_iconst (v := 0) hx hb dX9_isAhead_64 (by decide) ?_
            exact endZ hx hb hr hlk hP hK hD hS dX9_isAhead_65 rfl false rfl ⟨(bd1_e hk2).trans ((bd1_e hk4).trans ((bd1_e hk6).trans ((bd1_e hk8).trans ((bd1_n ey_9).trans ((if_neg c35).trans ((if_pos c42).trans ((if_neg c47).trans ((if_pos c52).trans ((if_pos c57).trans rfl))))))))), rfl⟩
          · refine lv_iconst (v := 1) hx hb dX9_isAhead_60 (by decide) ?_
            refine lv_goto (tgt := 65) hx hb dX9_isAhead_61 (by decide) ?_
            exact endZ hx hb hr hlk hP hK hD hS dX9_isAhead_65 rfl true rfl ⟨(bd1_e hk2).trans ((bd1_e hk4).trans ((bd1_e hk6).trans ((bd1_e hk8).trans ((bd1_n ey_9).trans ((if_neg c35).trans ((if_pos c42).trans ((if_neg c47).trans ((if_pos c52).trans ((if_neg c57).trans rfl))))))))), rfl⟩


/-- the loop of X9_next at 24 -/
def fX9_next_24 (S : Nat → Int32) (interviewer : Int32) (time : Int32) : Nat → Int32 → Int32 → Int32
  | 0, _, _ => default
  | fu + 1, x3, x4 =>
    (if S 0 ≤ x4 then (if (0 : Int32) ≤ x3 then x3 else (-4)) else bd1 (fX9_mayCall S interviewer x4 time) (fun (r_6 : Bool) => (if r_6 = true then (if x3 < 0 then fX9_next_24 S interviewer time fu x4 (x4 + 1) else bd1 (fX9_isAhead S x4 x3 interviewer) (fun (r_8 : Bool) => (if r_8 = true then fX9_next_24 S interviewer time fu x4 (x4 + 1) else fX9_next_24 S interviewer time fu x3 (x4 + 1)))) else fX9_next_24 S interviewer time fu x3 (x4 + 1))))
theorem fX9_next_24_s (S : Nat → Int32) (interviewer : Int32) (time : Int32) (fu : Nat) (x3 : Int32) (x4 : Int32) : fX9_next_24 S interviewer time (fu + 1) x3 x4 =
    (if S 0 ≤ x4 then (if (0 : Int32) ≤ x3 then x3 else (-4)) else bd1 (fX9_mayCall S interviewer x4 time) (fun (r_6 : Bool) => (if r_6 = true then (if x3 < 0 then fX9_next_24 S interviewer time fu x4 (x4 + 1) else bd1 (fX9_isAhead S x4 x3 interviewer) (fun (r_8 : Bool) => (if r_8 = true then fX9_next_24 S interviewer time fu x4 (x4 + 1) else fX9_next_24 S interviewer time fu x3 (x4 + 1)))) else fX9_next_24 S interviewer time fu x3 (x4 + 1)))) := rfl

/-- the value of X9_next, path by path -/
def fX9_next (S : Nat → Int32) (interviewer : Int32) (time : Int32) : Int32 :=
  bd1 (fX9_isStaff S interviewer) (fun (r_2 : Bool) => (if r_2 = true then bd1 (fX9_in time 0 2) (fun (r_4 : Bool) => (if r_4 = true then fX9_next_24 S interviewer time (((S 0).toInt - (0 : Int32).toInt).toNat + 1) (-1) 0 else (-1))) else (-1)))

set_option maxHeartbeats 4000000 in
set_option maxRecDepth 100000 in
/-- X9_next -/
theorem mX9_next (l : Launch) (D : va_G) (cI cC cS : ClassId) (sz : Nat) (o : Nat) (q1 : Nat) (q2 : Nat) (q3 : Nat) (q4 : Nat) (q5 : Nat) (S : Nat → Int32) (Bg : Nat → Int32) (Pa : Nat → Int32) (Tx : Nat → Int32) (Nu : Nat → Int32) (st : Int32) (ln : Int32) (ps : Int32) (fm : Bool) (rs : Int32) (interviewer : Int32) (time : Int32) (ho : okS S) : Met l yX9_next wsX9_next ({ frames := 6, cells := 0, slots := 0, locals := 136 } : Jvm.Room) (va_Pc [.ref o, .int interviewer, .int time] (wPre D (TY cI cC cS) [(o, .inr (7, [.ref q1, .ref q2, .ref q3, .int st, .ref q4, .int ln, .int ps, .int (bi fm), .int rs, .ref q5])), (q1, .inl (cI, 314, .inl S)), (q2, .inl (cI, 314, .inl Bg)), (q3, .inl (cI, 1256, .inl Pa)), (q4, .inl (cI, 80, .inl Tx)), (q5, .inl (cI, 5, .inl Nu))] sz X0)) (qI D (TY cI cC cS) (fun (r : Int32) (u : Int32) => fX9_next S interviewer time = u ∧ r = u) (fun u => [(o, .inr (7, [.ref q1, .ref q2, .ref q3, .int st, .ref q4, .int ln, .int ps, .int (bi fm), .int rs, .ref q5])), (q1, .inl (cI, 314, .inl S)), (q2, .inl (cI, 314, .inl Bg)), (q3, .inl (cI, 1256, .inl Pa)), (q4, .inl (cI, 80, .inl Tx)), (q5, .inl (cI, 5, .inl Nu))]) (va_A [(o, .inr (7, [.ref q1, .ref q2, .ref q3, .int st, .ref q4, .int ln, .int ps, .int (bi fm), .int rs, .ref q5])), (q1, .inl (cI, 314, .inl S)), (q2, .inl (cI, 314, .inl Bg)), (q3, .inl (cI, 1256, .inl Pa)), (q4, .inl (cI, 80, .inl Tx)), (q5, .inl (cI, 5, .inl Nu))] sz)) 0 0 (va_A [(o, .inr (7, [.ref q1, .ref q2, .ref q3, .int st, .ref q4, .int ln, .int ps, .int (bi fm), .int rs, .ref q5])), (q1, .inl (cI, 314, .inl S)), (q2, .inl (cI, 314, .inl Bg)), (q3, .inl (cI, 1256, .inl Pa)), (q4, .inl (cI, 80, .inl Tx)), (q5, .inl (cI, 5, .inl Nu))] sz) := by
  refine mkM (fun Fr => qI D (TY cI cC cS) (fun (r : Int32) (u : Int32) => fX9_next S interviewer time = u ∧ r = u) (fun u => [(o, .inr (7, [.ref q1, .ref q2, .ref q3, .int st, .ref q4, .int ln, .int ps, .int (bi fm), .int rs, .ref q5])), (q1, .inl (cI, 314, .inl S)), (q2, .inl (cI, 314, .inl Bg)), (q3, .inl (cI, 1256, .inl Pa)), (q4, .inl (cI, 80, .inl Tx)), (q5, .inl (cI, 5, .inl Nu))]) Fr) (cc := cX9_next) (maxL := 5) (ret := (some .int)) (own := RX9) (lv := [(0, .ref o), (1, .int interviewer), (2, .int time)]) (by decide) rfl rfl (Nat.le_of_ble_eq_true rfl) rfl ?_
  intro p e s m below meth c Fr ls hx hb hr hts hown hml hlk hin hP hK hD hS hA hAe hsz hX hl
  have w_1 := hts (.fieldLink RX9 7 "FieldQuotasModel" "s" "[I") (List.mem_of_getElem? (i := 1) rfl)
  have w_2 := sub_r (big := wsX9_next) (u_ws RX9 TX9 10) [54, 55, 56, 57, 58, 59, 60, 61, 62, 63] rfl
  refine lv_aload_n hx hb dX9_next_0 rfl (lv_at hl 0 rfl) ?_
  refine lv_iload_n hx hb dX9_next_1 rfl (lv_at hl 1 rfl) ?_
  refine callVi (As := [.int interviewer]) (rest := []) (mX9_isStaff l D cI cC cS _ o q1 q2 q3 q4 q5 S Bg Pa Tx Nu st ln ps fm rs interviewer) ⟨hx, hb, hml, hown, hts⟩ (cwV 1 hts gX9_next_X9_isStaff rfl rfl rfl (by decide +kernel) ⟨Nat.le_of_ble_eq_true rfl, Nat.le_of_ble_eq_true rfl⟩) X0_blind (fun _ _ _ => trivial) hP hK hD hS hA hl [0, 1, 2, 3, 4, 5] rfl rfl 0 7 rfl rfl rfl rfl rfl (Nat.le_of_ble_eq_true rfl) dX9_next_2 ⟨Nat.zero_le _, Nat.zero_le _⟩ (fun _ => rfl) (fun u_ H locs hk2 hP hD hS => ?_)
  obtain ⟨r_2, e_r_2⟩ : ∃ z, z = u_ := ⟨_, rfl⟩
  subst e_r_2
  have hP : va_P D vwCl [(o, .inr (7, [.ref q1, .ref q2, .ref q3, .int st, .ref q4, .int ln, .int ps, .int (bi fm), .int rs, .ref q5])), (q1, .inl (cI, 314, .inl S)), (q2, .inl (cI, 314, .inl Bg)), (q3, .inl (cI, 1256, .inl Pa)), (q4, .inl (cI, 80, .inl Tx)), (q5, .inl (cI, 5, .inl Nu))] H := hP
  have hD : va_D Fr [(o, .inr (7, [.ref q1, .ref q2, .ref q3, .int st, .ref q4, .int ln, .int ps, .int (bi fm), .int rs, .ref q5])), (q1, .inl (cI, 314, .inl S)), (q2, .inl (cI, 314, .inl Bg)), (q3, .inl (cI, 1256, .inl Pa)), (q4, .inl (cI, 80, .inl Tx)), (q5, .inl (cI, 5, .inl Nu))] := hD
  refine W.eq (g2 := F0 m 5 ls [.int (bi r_2)]) rfl ?_
  refine lv_if_eq (tgt := 17) hx hb dX9_next_5 (by decide) (fun c5 => ?_) (fun c5 => ?_)
  · refine lv_iconst (v := (-1)) hx hb dX9_next_17 (by decide) ?_
    exact endI hx hb hr hlk hP hK hD hS dX9_next_18 (-1) rfl ⟨(bd1_e hk2).trans ((if_neg (bi_z c5)).trans rfl), rfl⟩
  · refine lv_iload_n hx hb dX9_next_8 rfl (lv_at hl 2 rfl) ?_
    refine lv_iconst (v := 0) hx hb dX9_next_9 (by decide) ?_
    refine lv_iconst (v := 2) hx hb dX9_next_10 (by decide) ?_
    refine callSi (As := [.int time, .int 0, .int 2]) (rest := []) (mX9_in l D cI cC cS _ time 0 2) ⟨hx, hb, hml, hown, hts⟩ (va_cwS 3 hts gX9_next_X9_in rfl rfl rfl (by decide +kernel) ⟨Nat.le_of_ble_eq_true rfl, Nat.le_of_ble_eq_true rfl⟩) hP hK hD hS hA hl rfl rfl (Nat.le_of_ble_eq_true rfl) dX9_next_11 ⟨Nat.zero_le _, Nat.zero_le _⟩ (fun u_ H locs hk4 hP hS => ?_)
    obtain ⟨r_4, e_r_4⟩ : ∃ z, z = u_ := ⟨_, rfl⟩
    subst e_r_4
    refine W.eq (g2 := F0 m 14 ls [.int (bi r_4)]) rfl ?_
    refine lv_if_ne (tgt := 19) hx hb dX9_next_14 (by decide) (fun c14 => ?_) (fun c14 => ?_)
    · refine lv_iconst (v := (-1)) hx hb dX9_next_19 (by decide) ?_
      refine lv_istore_n (lv' := [(3, .int (-1)), (0, .ref o), (1, .int interviewer), (2, .int time)]) hx hb dX9_next_20 rfl hl (by decide) rfl (fun ls hl => ?_)
      refine lv_iconst (v := 0) hx hb dX9_next_21 (by decide) ?_
      refine lv_istore (lv' := [(4, .int 0), (3, .int (-1)), (0, .ref o), (1, .int interviewer), (2, .int time)]) hx hb dX9_next_22 hl (by decide) rfl (fun ls hl => ?_)
      have K_24 : ∀ (fu : Nat) (x3 : Int32) (x4 : Int32) (H : Heap) (locs : List Loc) (ls : Array Slot), va_P D vwCl [(o, .inr (7, [.ref q1, .ref q2, .ref q3, .int st, .ref q4, .int ln, .int ps, .int (bi fm), .int rs, .ref q5])), (q1, .inl (cI, 314, .inl S)), (q2, .inl (cI, 314, .inl Bg)), (q3, .inl (cI, 1256, .inl Pa)), (q4, .inl (cI, 80, .inl Tx)), (q5, .inl (cI, 5, .inl Nu))] H → va_D Fr [(o, .inr (7, [.ref q1, .ref q2, .ref q3, .int st, .ref q4, .int ln, .int ps, .int (bi fm), .int rs, .ref q5])), (q1, .inl (cI, 314, .inl S)), (q2, .inl (cI, 314, .inl Bg)), (q3, .inl (cI, 1256, .inl Pa)), (q4, .inl (cI, 80, .inl Tx)), (q5, .inl (cI, 5, .inl Nu))] → va_S Fr s.heap H locs → lv_has ls 5 [(0, .ref o), (1, .int interviewer), (2, .int time), (3, .int x3), (4, .int x4)] → (¬ x4 < 0) → (x3 < 0 ∨ vp_in x3 24) → ((S 0).toInt - x4.toInt).toNat < fu → fX9_next S interviewer time = fX9_next_24 S interviewer time fu x3 x4 → W p l e (headSpec wsX9_next ({ frames := 6, cells := 0, slots := 0, locals := 136 } : Jvm.Room)).room s m ([.ref o, .int interviewer, .int time] : List Value).toArray below meth c H locs 0 0 (MQ below (qI D (TY cI cC cS) (fun (r : Int32) (u : Int32) => fX9_next S interviewer time = u ∧ r = u) (fun u => [(o, .inr (7, [.ref q1, .ref q2, .ref q3, .int st, .ref q4, .int ln, .int ps, .int (bi fm), .int rs, .ref q5])), (q1, .inl (cI, 314, .inl S)), (q2, .inl (cI, 314, .inl Bg)), (q3, .inl (cI, 1256, .inl Pa)), (q4, .inl (cI, 80, .inl Tx)), (q5, .inl (cI, 5, .inl Nu))]) Fr) ([.ref o, .int interviewer, .int time] : List Value).toArray s 0 0 Fr) (F0 m 24 ls []) := by
        intro fu
        induction fu with
        | zero => intros; exact absurd (by assumption) (Nat.not_lt_zero _)
        | succ fu ih_24 =>
          intro x3 x4 H locs ls hP hD hS hl hi0 hf hm_24 E_24
          refine lv_iload hx hb dX9_next_24 (lv_at hl 4 rfl) ?_
          refine lv_aload_n hx hb dX9_next_26 rfl (lv_at hl 0 rfl) ?_
          refine va_get (D := D) (ci := 7) (C := RX9) (T := TX9) (N := 10) hx hb hts w_2 hown hK hP 0 rfl rfl 0 (by decide) w_1 (fun _ h9 => h9) rfl dX9_next_27 ?_
          refine lv_iconst (v := 0) hx hb dX9_next_30 (by decide) ?_
          refine va_iald hx hb hK hP 1 0 rfl rfl (vp_d rfl) dX9_next_31 ?_
          refine W.eq (g2 := F0 m 32 ls [.int (S 0), .int x4]) rfl ?_
          refine lv_icmp_ge (tgt := 74) hx hb dX9_next_32 (by decide) (fun c32 => ?_) (fun c32 => ?_)
          · refine lv_iload_n hx hb dX9_next_74 rfl (lv_at hl 3 rfl) ?_
            refine lv_if_ge (tgt := 83) hx hb dX9_next_75 (by decide) (fun c75 => ?_) (fun c75 => ?_)
            · refine lv_iload_n hx hb dX9_next_83 rfl (lv_at hl 3 rfl) ?_
              exact endI hx hb hr hlk hP hK hD hS dX9_next_84 x3 rfl ⟨(E_24).trans ((fX9_next_24_s S interviewer time fu x3 x4).trans ((if_pos c32).trans ((if_pos c75).trans rfl))), rfl⟩
            · refine lv_bipush (v := (-4)) hx hb dX9_next_78 (by decide) ?_
              refine lv_goto (tgt := 84) hx hb dX9_next_80 (by decide) ?_
              exact endI hx hb hr hlk hP hK hD hS dX9_next_84 (-4) rfl ⟨(E_24).trans ((fX9_next_24_s S interviewer time fu x3 x4).trans ((if_pos c32).trans ((if_neg c75).trans rfl))), rfl⟩
          · refine lv_aload_n hx hb dX9_next_35 rfl (lv_at hl 0 rfl) ?_
            refine lv_iload_n hx hb dX9_next_36 rfl (lv_at hl 1 rfl) ?_
            refine lv_iload hx hb dX9_next_37 (lv_at hl 4 rfl) ?_
            refine lv_iload_n hx hb dX9_next_39 rfl (lv_at hl 2 rfl) ?_
            refine callVi (As := [.int interviewer, .int x4, .int time]) (rest := []) (mX9_mayCall l D cI cC cS _ o q1 q2 q3 q4 q5 S Bg Pa Tx Nu st ln ps fm rs interviewer x4 time (st_of (hk2.trans (bi_o c5)) ho.2.1) (vp_k hi0 c32 ho.1)) ⟨hx, hb, hml, hown, hts⟩ (cwV 3 hts gX9_next_X9_mayCall rfl rfl rfl (by decide +kernel) ⟨Nat.le_of_ble_eq_true rfl, Nat.le_of_ble_eq_true rfl⟩) X0_blind (fun _ _ _ => trivial) hP hK hD hS hA hl [0, 1, 2, 3, 4, 5] rfl rfl 0 7 rfl rfl rfl rfl rfl (Nat.le_of_ble_eq_true rfl) dX9_next_40 ⟨Nat.zero_le _, Nat.zero_le _⟩ (fun _ => rfl) (fun u_ H locs hk6 hP hD hS => ?_)
            obtain ⟨r_6, e_r_6⟩ : ∃ z, z = u_ := ⟨_, rfl⟩
            subst e_r_6
            have hP : va_P D vwCl [(o, .inr (7, [.ref q1, .ref q2, .ref q3, .int st, .ref q4, .int ln, .int ps, .int (bi fm), .int rs, .ref q5])), (q1, .inl (cI, 314, .inl S)), (q2, .inl (cI, 314, .inl Bg)), (q3, .inl (cI, 1256, .inl Pa)), (q4, .inl (cI, 80, .inl Tx)), (q5, .inl (cI, 5, .inl Nu))] H := hP
            have hD : va_D Fr [(o, .inr (7, [.ref q1, .ref q2, .ref q3, .int st, .ref q4, .int ln, .int ps, .int (bi fm), .int rs, .ref q5])), (q1, .inl (cI, 314, .inl S)), (q2, .inl (cI, 314, .inl Bg)), (q3, .inl (cI, 1256, .inl Pa)), (q4, .inl (cI, 80, .inl Tx)), (q5, .inl (cI, 5, .inl Nu))] := hD
            refine W.eq (g2 := F0 m 43 ls [.int (bi r_6)]) rfl ?_
            refine lv_if_eq (tgt := 66) hx hb dX9_next_43 (by decide) (fun c43 => ?_) (fun c43 => ?_)
            · refine lv_iload_n hx hb dX9_next_66 rfl (lv_at hl 3 rfl) ?_
              refine lv_istore_n (lv' := [(3, .int x3), (0, .ref o), (1, .int interviewer), (2, .int time), (4, .int x4)]) hx hb dX9_next_67 rfl hl (by decide) rfl (fun ls hl => ?_)
              refine lv_iinc (v := x4 + 1) (lv' := [(4, .int (x4 + 1)), (3, .int x3), (0, .ref o), (1, .int interviewer), (2, .int time)]) hx hb dX9_next_68 hl (k := 4) rfl (by rfl) (by decide) rfl (fun ls hl => ?_)
              refine lv_goto (tgt := 24) hx hb dX9_next_71 (by decide) ?_
              exact ih_24 x3 (x4 + 1) _ _ ls hP hD hS (lv_sub hl [2, 3, 4, 1, 0] rfl) (up_k hi0 c32) (by first | exact hf | exact Or.inr (vp_k hi0 c32 ho.1)) (Nat.lt_of_lt_of_le (lp_dec c32) (Nat.le_of_lt_succ hm_24)) ((E_24).trans ((fX9_next_24_s S interviewer time fu x3 x4).trans ((if_neg c32).trans ((bd1_e hk6).trans ((if_neg (bi_z c43)).trans rfl)))))
            · refine lv_iload_n hx hb dX9_next_46 rfl (lv_at hl 3 rfl) ?_
              refine lv_if_lt (tgt := 61) hx hb dX9_next_47 (by decide) (fun c47 => ?_) (fun c47 => ?_)
              · refine lv_iload hx hb dX9_next_61 (lv_at hl 4 rfl) ?_
                refine lv_goto (tgt := 67) hx hb dX9_next_63 (by decide) ?_
                refine lv_istore_n (lv' := [(3, .int x4), (0, .ref o), (1, .int interviewer), (2, .int time), (4, .int x4)]) hx hb dX9_next_67 rfl hl (by decide) rfl (fun ls hl => ?_)
                refine lv_iinc (v := x4 + 1) (lv' := [(4, .int (x4 + 1)), (3, .int x4), (0, .ref o), (1, .int interviewer), (2, .int time)]) hx hb dX9_next_68 hl (k := 4) rfl (by rfl) (by decide) rfl (fun ls hl => ?_)
                refine lv_goto (tgt := 24) hx hb dX9_next_71 (by decide) ?_
                exact ih_24 x4 (x4 + 1) _ _ ls hP hD hS (lv_sub hl [2, 3, 4, 1, 0] rfl) (up_k hi0 c32) (by first | exact hf | exact Or.inr (vp_k hi0 c32 ho.1)) (Nat.lt_of_lt_of_le (lp_dec c32) (Nat.le_of_lt_succ hm_24)) ((E_24).trans ((fX9_next_24_s S interviewer time fu x3 x4).trans ((if_neg c32).trans ((bd1_e hk6).trans ((if_pos (bi_o c43)).trans ((if_pos c47).trans rfl))))))
              · refine lv_aload_n hx hb dX9_next_50 rfl (lv_at hl 0 rfl) ?_
                refine lv_iload hx hb dX9_next_51 (lv_at hl 4 rfl) ?_
                refine lv_iload_n hx hb dX9_next_53 rfl (lv_at hl 3 rfl) ?_
                refine lv_iload_n hx hb dX9_next_54 rfl (lv_at hl 1 rfl) ?_
                refine callVi (As := [.int x4, .int x3, .int interviewer]) (rest := []) (mX9_isAhead l D cI cC cS _ o q1 q2 q3 q4 q5 S Bg Pa Tx Nu st ln ps fm rs x4 x3 interviewer (vp_k hi0 c32 ho.1) (hf.resolve_left c47) (st_of (hk2.trans (bi_o c5)) ho.2.1) ho) ⟨hx, hb, hml, hown, hts⟩ (cwV 3 hts gX9_next_X9_isAhead rfl rfl rfl (by decide +kernel) ⟨Nat.le_of_ble_eq_true rfl, Nat.le_of_ble_eq_true rfl⟩) X0_blind (fun _ _ _ => trivial) hP hK hD hS hA hl [0, 1, 2, 3, 4, 5] rfl rfl 0 7 rfl rfl rfl rfl rfl (Nat.le_of_ble_eq_true rfl) dX9_next_55 ⟨Nat.zero_le _, Nat.zero_le _⟩ (fun _ => rfl) (fun u_ H locs hk8 hP hD hS => ?_)
                obtain ⟨r_8, e_r_8⟩ : ∃ z, z = u_ := ⟨_, rfl⟩
                subst e_r_8
                have hP : va_P D vwCl [(o, .inr (7, [.ref q1, .ref q2, .ref q3, .int st, .ref q4, .int ln, .int ps, .int (bi fm), .int rs, .ref q5])), (q1, .inl (cI, 314, .inl S)), (q2, .inl (cI, 314, .inl Bg)), (q3, .inl (cI, 1256, .inl Pa)), (q4, .inl (cI, 80, .inl Tx)), (q5, .inl (cI, 5, .inl Nu))] H := hP
                have hD : va_D Fr [(o, .inr (7, [.ref q1, .ref q2, .ref q3, .int st, .ref q4, .int ln, .int ps, .int (bi fm), .int rs, .ref q5])), (q1, .inl (cI, 314, .inl S)), (q2, .inl (cI, 314, .inl Bg)), (q3, .inl (cI, 1256, .inl Pa)), (q4, .inl (cI, 80, .inl Tx)), (q5, .inl (cI, 5, .inl Nu))] := hD
                refine W.eq (g2 := F0 m 58 ls [.int (bi r_8)]) rfl ?_
                refine lv_if_eq (tgt := 66) hx hb dX9_next_58 (by decide) (fun c58 => ?_) (fun c58 => ?_)
                · refine lv_iload_n hx hb dX9_next_66 rfl (lv_at hl 3 rfl) ?_
                  refine lv_istore_n (lv' := [(3, .int x3), (0, .ref o), (1, .int interviewer), (2, .int time), (4, .int x4)]) hx hb dX9_next_67 rfl hl (by decide) rfl (fun ls hl => ?_)
                  refine lv_iinc (v := x4 + 1) (lv' := [(4, .int (x4 + 1)), (3, .int x3), (0, .ref o), (1, .int interviewer), (2, .int time)]) hx hb dX9_next_68 hl (k := 4) rfl (by rfl) (by decide) rfl (fun ls hl => ?_)
                  refine lv_goto (tgt := 24) hx hb dX9_next_71 (by decide) ?_
                  exact ih_24 x3 (x4 + 1) _ _ ls hP hD hS (lv_sub hl [2, 3, 4, 1, 0] rfl) (up_k hi0 c32) (by first | exact hf | exact Or.inr (vp_k hi0 c32 ho.1)) (Nat.lt_of_lt_of_le (lp_dec c32) (Nat.le_of_lt_succ hm_24)) ((E_24).trans ((fX9_next_24_s S interviewer time fu x3 x4).trans ((if_neg c32).trans ((bd1_e hk6).trans ((if_pos (bi_o c43)).trans ((if_neg c47).trans ((bd1_e hk8).trans ((if_neg (bi_z c58)).trans rfl))))))))
                · refine lv_iload hx hb dX9_next_61 (lv_at hl 4 rfl) ?_
                  refine lv_goto (tgt := 67) hx hb dX9_next_63 (by decide) ?_
                  refine lv_istore_n (lv' := [(3, .int x4), (0, .ref o), (1, .int interviewer), (2, .int time), (4, .int x4)]) hx hb dX9_next_67 rfl hl (by decide) rfl (fun ls hl => ?_)
                  refine lv_iinc (v := x4 + 1) (lv' := [(4, .int (x4 + 1)), (3, .int x4), (0, .ref o), (1, .int interviewer), (2, .int time)]) hx hb dX9_next_68 hl (k := 4) rfl (by rfl) (by decide) rfl (fun ls hl => ?_)
                  refine lv_goto (tgt := 24) hx hb dX9_next_71 (by decide) ?_
                  exact ih_24 x4 (x4 + 1) _ _ ls hP hD hS (lv_sub hl [2, 3, 4, 1, 0] rfl) (up_k hi0 c32) (by first | exact hf | exact Or.inr (vp_k hi0 c32 ho.1)) (Nat.lt_of_lt_of_le (lp_dec c32) (Nat.le_of_lt_succ hm_24)) ((E_24).trans ((fX9_next_24_s S interviewer time fu x3 x4).trans ((if_neg c32).trans ((bd1_e hk6).trans ((if_pos (bi_o c43)).trans ((if_neg c47).trans ((bd1_e hk8).trans ((if_pos (bi_o c58)).trans rfl))))))))
      exact K_24 (((S 0).toInt - (0 : Int32).toInt).toNat + 1) (-1) 0 _ _ ls hP hD hS (lv_sub hl [2, 3, 4, 1, 0] rfl) (by decide) (Or.inl (by decide)) (Nat.lt_succ_self _) ((bd1_e hk2).trans ((if_pos (bi_o c5)).trans ((bd1_e hk4).trans ((if_pos (bi_o c14)).trans rfl))))
    · refine lv_iconst (v := (-1)) hx hb dX9_next_17 (by decide) ?_
      exact endI hx hb hr hlk hP hK hD hS dX9_next_18 (-1) rfl ⟨(bd1_e hk2).trans ((if_pos (bi_o c5)).trans ((bd1_e hk4).trans ((if_neg (bi_z c14)).trans rfl))), rfl⟩


/-- the loop of X9_possible at 24 -/
def fX9_possible_24 (S : Nat → Int32) (interviewer : Int32) (time : Int32) : Nat → Int32 → Int32 → Int32
  | 0, _, _ => default
  | fu + 1, x3, x4 =>
    (if S 0 ≤ x4 then x3 else bd1 (fX9_mayCall S interviewer x4 time) (fun (r_6 : Bool) => (if r_6 = true then bd1 (x3 ||| (1 <<< (x4 &&& 31))) (fun (y_8 : Int32) => fX9_possible_24 S interviewer time fu y_8 (x4 + 1)) else bd1 (x3 ||| 0) (fun (y_7 : Int32) => fX9_possible_24 S interviewer time fu y_7 (x4 + 1)))))
theorem fX9_possible_24_s (S : Nat → Int32) (interviewer : Int32) (time : Int32) (fu : Nat) (x3 : Int32) (x4 : Int32) : fX9_possible_24 S interviewer time (fu + 1) x3 x4 =
    (if S 0 ≤ x4 then x3 else bd1 (fX9_mayCall S interviewer x4 time) (fun (r_6 : Bool) => (if r_6 = true then bd1 (x3 ||| (1 <<< (x4 &&& 31))) (fun (y_8 : Int32) => fX9_possible_24 S interviewer time fu y_8 (x4 + 1)) else bd1 (x3 ||| 0) (fun (y_7 : Int32) => fX9_possible_24 S interviewer time fu y_7 (x4 + 1))))) := rfl

/-- the value of X9_possible, path by path -/
def fX9_possible (S : Nat → Int32) (interviewer : Int32) (time : Int32) : Int32 :=
  bd1 (fX9_isStaff S interviewer) (fun (r_2 : Bool) => (if r_2 = true then bd1 (fX9_in time 0 2) (fun (r_4 : Bool) => (if r_4 = true then fX9_possible_24 S interviewer time (((S 0).toInt - (0 : Int32).toInt).toNat + 1) 0 0 else (-1))) else (-1)))

set_option maxHeartbeats 4000000 in
set_option maxRecDepth 100000 in
/-- X9_possible -/
theorem mX9_possible (l : Launch) (D : va_G) (cI cC cS : ClassId) (sz : Nat) (o : Nat) (q1 : Nat) (q2 : Nat) (q3 : Nat) (q4 : Nat) (q5 : Nat) (S : Nat → Int32) (Bg : Nat → Int32) (Pa : Nat → Int32) (Tx : Nat → Int32) (Nu : Nat → Int32) (st : Int32) (ln : Int32) (ps : Int32) (fm : Bool) (rs : Int32) (interviewer : Int32) (time : Int32) (ho : okS S) : Met l yX9_possible wsX9_possible ({ frames := 5, cells := 0, slots := 0, locals := 108 } : Jvm.Room) (va_Pc [.ref o, .int interviewer, .int time] (wPre D (TY cI cC cS) [(o, .inr (7, [.ref q1, .ref q2, .ref q3, .int st, .ref q4, .int ln, .int ps, .int (bi fm), .int rs, .ref q5])), (q1, .inl (cI, 314, .inl S)), (q2, .inl (cI, 314, .inl Bg)), (q3, .inl (cI, 1256, .inl Pa)), (q4, .inl (cI, 80, .inl Tx)), (q5, .inl (cI, 5, .inl Nu))] sz X0)) (qI D (TY cI cC cS) (fun (r : Int32) (u : Int32) => fX9_possible S interviewer time = u ∧ r = u) (fun u => [(o, .inr (7, [.ref q1, .ref q2, .ref q3, .int st, .ref q4, .int ln, .int ps, .int (bi fm), .int rs, .ref q5])), (q1, .inl (cI, 314, .inl S)), (q2, .inl (cI, 314, .inl Bg)), (q3, .inl (cI, 1256, .inl Pa)), (q4, .inl (cI, 80, .inl Tx)), (q5, .inl (cI, 5, .inl Nu))]) (va_A [(o, .inr (7, [.ref q1, .ref q2, .ref q3, .int st, .ref q4, .int ln, .int ps, .int (bi fm), .int rs, .ref q5])), (q1, .inl (cI, 314, .inl S)), (q2, .inl (cI, 314, .inl Bg)), (q3, .inl (cI, 1256, .inl Pa)), (q4, .inl (cI, 80, .inl Tx)), (q5, .inl (cI, 5, .inl Nu))] sz)) 0 0 (va_A [(o, .inr (7, [.ref q1, .ref q2, .ref q3, .int st, .ref q4, .int ln, .int ps, .int (bi fm), .int rs, .ref q5])), (q1, .inl (cI, 314, .inl S)), (q2, .inl (cI, 314, .inl Bg)), (q3, .inl (cI, 1256, .inl Pa)), (q4, .inl (cI, 80, .inl Tx)), (q5, .inl (cI, 5, .inl Nu))] sz) := by
  refine mkM (fun Fr => qI D (TY cI cC cS) (fun (r : Int32) (u : Int32) => fX9_possible S interviewer time = u ∧ r = u) (fun u => [(o, .inr (7, [.ref q1, .ref q2, .ref q3, .int st, .ref q4, .int ln, .int ps, .int (bi fm), .int rs, .ref q5])), (q1, .inl (cI, 314, .inl S)), (q2, .inl (cI, 314, .inl Bg)), (q3, .inl (cI, 1256, .inl Pa)), (q4, .inl (cI, 80, .inl Tx)), (q5, .inl (cI, 5, .inl Nu))]) Fr) (cc := cX9_possible) (maxL := 5) (ret := (some .int)) (own := RX9) (lv := [(0, .ref o), (1, .int interviewer), (2, .int time)]) (by decide) rfl rfl (Nat.le_of_ble_eq_true rfl) rfl ?_
  intro p e s m below meth c Fr ls hx hb hr hts hown hml hlk hin hP hK hD hS hA hAe hsz hX hl
  have w_1 := hts (.fieldLink RX9 7 "FieldQuotasModel" "s" "[I") (List.mem_of_getElem? (i := 1) rfl)
  have w_2 := sub_r (big := wsX9_possible) (u_ws RX9 TX9 10) [34, 35, 36, 37, 38, 39, 40, 41, 42, 43] rfl
  refine lv_aload_n hx hb dX9_possible_0 rfl (lv_at hl 0 rfl) ?_
  refine lv_iload_n hx hb dX9_possible_1 rfl (lv_at hl 1 rfl) ?_
  refine callVi (As := [.int interviewer]) (rest := []) (mX9_isStaff l D cI cC cS _ o q1 q2 q3 q4 q5 S Bg Pa Tx Nu st ln ps fm rs interviewer) ⟨hx, hb, hml, hown, hts⟩ (cwV 1 hts gX9_possible_X9_isStaff rfl rfl rfl (by decide +kernel) ⟨Nat.le_of_ble_eq_true rfl, Nat.le_of_ble_eq_true rfl⟩) X0_blind (fun _ _ _ => trivial) hP hK hD hS hA hl [0, 1, 2, 3, 4, 5] rfl rfl 0 7 rfl rfl rfl rfl rfl (Nat.le_of_ble_eq_true rfl) dX9_possible_2 ⟨Nat.zero_le _, Nat.zero_le _⟩ (fun _ => rfl) (fun u_ H locs hk2 hP hD hS => ?_)
  obtain ⟨r_2, e_r_2⟩ : ∃ z, z = u_ := ⟨_, rfl⟩
  subst e_r_2
  have hP : va_P D vwCl [(o, .inr (7, [.ref q1, .ref q2, .ref q3, .int st, .ref q4, .int ln, .int ps, .int (bi fm), .int rs, .ref q5])), (q1, .inl (cI, 314, .inl S)), (q2, .inl (cI, 314, .inl Bg)), (q3, .inl (cI, 1256, .inl Pa)), (q4, .inl (cI, 80, .inl Tx)), (q5, .inl (cI, 5, .inl Nu))] H := hP
  have hD : va_D Fr [(o, .inr (7, [.ref q1, .ref q2, .ref q3, .int st, .ref q4, .int ln, .int ps, .int (bi fm), .int rs, .ref q5])), (q1, .inl (cI, 314, .inl S)), (q2, .inl (cI, 314, .inl Bg)), (q3, .inl (cI, 1256, .inl Pa)), (q4, .inl (cI, 80, .inl Tx)), (q5, .inl (cI, 5, .inl Nu))] := hD
  refine W.eq (g2 := F0 m 5 ls [.int (bi r_2)]) rfl ?_
  refine lv_if_eq (tgt := 17) hx hb dX9_possible_5 (by decide) (fun c5 => ?_) (fun c5 => ?_)
  · refine lv_iconst (v := (-1)) hx hb dX9_possible_17 (by decide) ?_
    exact endI hx hb hr hlk hP hK hD hS dX9_possible_18 (-1) rfl ⟨(bd1_e hk2).trans ((if_neg (bi_z c5)).trans rfl), rfl⟩
  · refine lv_iload_n hx hb dX9_possible_8 rfl (lv_at hl 2 rfl) ?_
    refine lv_iconst (v := 0) hx hb dX9_possible_9 (by decide) ?_
    refine lv_iconst (v := 2) hx hb dX9_possible_10 (by decide) ?_
    refine callSi (As := [.int time, .int 0, .int 2]) (rest := []) (mX9_in l D cI cC cS _ time 0 2) ⟨hx, hb, hml, hown, hts⟩ (va_cwS 3 hts gX9_possible_X9_in rfl rfl rfl (by decide +kernel) ⟨Nat.le_of_ble_eq_true rfl, Nat.le_of_ble_eq_true rfl⟩) hP hK hD hS hA hl rfl rfl (Nat.le_of_ble_eq_true rfl) dX9_possible_11 ⟨Nat.zero_le _, Nat.zero_le _⟩ (fun u_ H locs hk4 hP hS => ?_)
    obtain ⟨r_4, e_r_4⟩ : ∃ z, z = u_ := ⟨_, rfl⟩
    subst e_r_4
    refine W.eq (g2 := F0 m 14 ls [.int (bi r_4)]) rfl ?_
    refine lv_if_ne (tgt := 19) hx hb dX9_possible_14 (by decide) (fun c14 => ?_) (fun c14 => ?_)
    · refine lv_iconst (v := 0) hx hb dX9_possible_19 (by decide) ?_
      refine lv_istore_n (lv' := [(3, .int 0), (0, .ref o), (1, .int interviewer), (2, .int time)]) hx hb dX9_possible_20 rfl hl (by decide) rfl (fun ls hl => ?_)
      refine lv_iconst (v := 0) hx hb dX9_possible_21 (by decide) ?_
      refine lv_istore (lv' := [(4, .int 0), (3, .int 0), (0, .ref o), (1, .int interviewer), (2, .int time)]) hx hb dX9_possible_22 hl (by decide) rfl (fun ls hl => ?_)
      have K_24 : ∀ (fu : Nat) (x3 : Int32) (x4 : Int32) (H : Heap) (locs : List Loc) (ls : Array Slot), va_P D vwCl [(o, .inr (7, [.ref q1, .ref q2, .ref q3, .int st, .ref q4, .int ln, .int ps, .int (bi fm), .int rs, .ref q5])), (q1, .inl (cI, 314, .inl S)), (q2, .inl (cI, 314, .inl Bg)), (q3, .inl (cI, 1256, .inl Pa)), (q4, .inl (cI, 80, .inl Tx)), (q5, .inl (cI, 5, .inl Nu))] H → va_D Fr [(o, .inr (7, [.ref q1, .ref q2, .ref q3, .int st, .ref q4, .int ln, .int ps, .int (bi fm), .int rs, .ref q5])), (q1, .inl (cI, 314, .inl S)), (q2, .inl (cI, 314, .inl Bg)), (q3, .inl (cI, 1256, .inl Pa)), (q4, .inl (cI, 80, .inl Tx)), (q5, .inl (cI, 5, .inl Nu))] → va_S Fr s.heap H locs → lv_has ls 5 [(0, .ref o), (1, .int interviewer), (2, .int time), (3, .int x3), (4, .int x4)] → (¬ x4 < 0) → ((S 0).toInt - x4.toInt).toNat < fu → fX9_possible S interviewer time = fX9_possible_24 S interviewer time fu x3 x4 → W p l e (headSpec wsX9_possible ({ frames := 5, cells := 0, slots := 0, locals := 108 } : Jvm.Room)).room s m ([.ref o, .int interviewer, .int time] : List Value).toArray below meth c H locs 0 0 (MQ below (qI D (TY cI cC cS) (fun (r : Int32) (u : Int32) => fX9_possible S interviewer time = u ∧ r = u) (fun u => [(o, .inr (7, [.ref q1, .ref q2, .ref q3, .int st, .ref q4, .int ln, .int ps, .int (bi fm), .int rs, .ref q5])), (q1, .inl (cI, 314, .inl S)), (q2, .inl (cI, 314, .inl Bg)), (q3, .inl (cI, 1256, .inl Pa)), (q4, .inl (cI, 80, .inl Tx)), (q5, .inl (cI, 5, .inl Nu))]) Fr) ([.ref o, .int interviewer, .int time] : List Value).toArray s 0 0 Fr) (F0 m 24 ls []) := by
        intro fu
        induction fu with
        | zero => intros; exact absurd (by assumption) (Nat.not_lt_zero _)
        | succ fu ih_24 =>
          intro x3 x4 H locs ls hP hD hS hl hi0 hm_24 E_24
          refine lv_iload hx hb dX9_possible_24 (lv_at hl 4 rfl) ?_
          refine lv_aload_n hx hb dX9_possible_26 rfl (lv_at hl 0 rfl) ?_
          refine va_get (D := D) (ci := 7) (C := RX9) (T := TX9) (N := 10) hx hb hts w_2 hown hK hP 0 rfl rfl 0 (by decide) w_1 (fun _ h9 => h9) rfl dX9_possible_27 ?_
          refine lv_iconst (v := 0) hx hb dX9_possible_30 (by decide) ?_
          refine va_iald hx hb hK hP 1 0 rfl rfl (vp_d rfl) dX9_possible_31 ?_
          refine W.eq (g2 := F0 m 32 ls [.int (S 0), .int x4]) rfl ?_
          refine lv_icmp_ge (tgt := 63) hx hb dX9_possible_32 (by decide) (fun c32 => ?_) (fun c32 => ?_)
          · refine lv_iload_n hx hb dX9_possible_63 rfl (lv_at hl 3 rfl) ?_
            exact endI hx hb hr hlk hP hK hD hS dX9_possible_64 x3 rfl ⟨(E_24).trans ((fX9_possible_24_s S interviewer time fu x3 x4).trans ((if_pos c32).trans rfl)), rfl⟩
          · refine lv_iload_n hx hb dX9_possible_35 rfl (lv_at hl 3 rfl) ?_
            refine lv_aload_n hx hb dX9_possible_36 rfl (lv_at hl 0 rfl) ?_
            refine lv_iload_n hx hb dX9_possible_37 rfl (lv_at hl 1 rfl) ?_
            refine lv_iload hx hb dX9_possible_38 (lv_at hl 4 rfl) ?_
            refine lv_iload_n hx hb dX9_possible_40 rfl (lv_at hl 2 rfl) ?_
            refine callVi (As := [.int interviewer, .int x4, .int time]) (rest := [.int x3]) (mX9_mayCall l D cI cC cS _ o q1 q2 q3 q4 q5 S Bg Pa Tx Nu st ln ps fm rs interviewer x4 time (st_of (hk2.trans (bi_o c5)) ho.2.1) (vp_k hi0 c32 ho.1)) ⟨hx, hb, hml, hown, hts⟩ (cwV 3 hts gX9_possible_X9_mayCall rfl rfl rfl (by decide +kernel) ⟨Nat.le_of_ble_eq_true rfl, Nat.le_of_ble_eq_true rfl⟩) X0_blind (fun _ _ _ => trivial) hP hK hD hS hA hl [0, 1, 2, 3, 4, 5] rfl rfl 0 7 rfl rfl rfl rfl rfl (Nat.le_of_ble_eq_true rfl) dX9_possible_41 ⟨Nat.zero_le _, Nat.zero_le _⟩ (fun _ => rfl) (fun u_ H locs hk6 hP hD hS => ?_)
            obtain ⟨r_6, e_r_6⟩ : ∃ z, z = u_ := ⟨_, rfl⟩
            subst e_r_6
            have hP : va_P D vwCl [(o, .inr (7, [.ref q1, .ref q2, .ref q3, .int st, .ref q4, .int ln, .int ps, .int (bi fm), .int rs, .ref q5])), (q1, .inl (cI, 314, .inl S)), (q2, .inl (cI, 314, .inl Bg)), (q3, .inl (cI, 1256, .inl Pa)), (q4, .inl (cI, 80, .inl Tx)), (q5, .inl (cI, 5, .inl Nu))] H := hP
            have hD : va_D Fr [(o, .inr (7, [.ref q1, .ref q2, .ref q3, .int st, .ref q4, .int ln, .int ps, .int (bi fm), .int rs, .ref q5])), (q1, .inl (cI, 314, .inl S)), (q2, .inl (cI, 314, .inl Bg)), (q3, .inl (cI, 1256, .inl Pa)), (q4, .inl (cI, 80, .inl Tx)), (q5, .inl (cI, 5, .inl Nu))] := hD
            refine W.eq (g2 := F0 m 44 ls [.int (bi r_6), .int x3]) rfl ?_
            refine lv_if_eq (tgt := 54) hx hb dX9_possible_44 (by decide) (fun c44 => ?_) (fun c44 => ?_)
            · refine lv_iconst (v := 0) hx hb dX9_possible_54 (by decide) ?_
              refine lv_ior hx hb dX9_possible_55 ?_
              refine lv_topi (fun y_7 ey_7 => ?_)
              refine lv_istore_n (lv' := [(3, .int y_7), (0, .ref o), (1, .int interviewer), (2, .int time), (4, .int x4)]) hx hb dX9_possible_56 rfl hl (by decide) rfl (fun ls hl => ?_)
              refine lv_iinc (v := x4 + 1) (lv' := [(4, .int (x4 + 1)), (3, .int y_7), (0, .ref o), (1, .int interviewer), (2, .int time)]) hx hb dX9_possible_57 hl (k := 4) rfl (by rfl) (by decide) rfl (fun ls hl => ?_)
              refine lv_goto (tgt := 24) hx hb dX9_possible_60 (by decide) ?_
              exact ih_24 y_7 (x4 + 1) _ _ ls hP hD hS (lv_sub hl [2, 3, 4, 1, 0] rfl) (up_k hi0 c32) (Nat.lt_of_lt_of_le (lp_dec c32) (Nat.le_of_lt_succ hm_24)) ((E_24).trans ((fX9_possible_24_s S interviewer time fu x3 x4).trans ((if_neg c32).trans ((bd1_e hk6).trans ((if_neg (bi_z c44)).trans ((bd1_n ey_7).trans rfl))))))
            · refine lv_iconst (v := 1) hx hb dX9_possible_47 (by decide) ?_
              refine lv_iload hx hb dX9_possible_48 (lv_at hl 4 rfl) ?_
              refine lv_ishl hx hb dX9_possible_50 ?_
              refine lv_goto (tgt := 55) hx hb dX9_possible_51 (by decide) ?_
              refine lv_ior hx hb dX9_possible_55 ?_
              refine lv_topi (fun y_8 ey_8 => ?_)
              refine lv_istore_n (lv' := [(3, .int y_8), (0, .ref o), (1, .int interviewer), (2, .int time), (4, .int x4)]) hx hb dX9_possible_56 rfl hl (by decide) rfl (fun ls hl => ?_)
              refine lv_iinc (v := x4 + 1) (lv' := [(4, .int (x4 + 1)), (3, .int y_8), (0, .ref o), (1, .int interviewer), (2, .int time)]) hx hb dX9_possible_57 hl (k := 4) rfl (by rfl) (by decide) rfl (fun ls hl => ?_)
              refine lv_goto (tgt := 24) hx hb dX9_possible_60 (by decide) ?_
              exact ih_24 y_8 (x4 + 1) _ _ ls hP hD hS (lv_sub hl [2, 3, 4, 1, 0] rfl) (up_k hi0 c32) (Nat.lt_of_lt_of_le (lp_dec c32) (Nat.le_of_lt_succ hm_24)) ((E_24).trans ((fX9_possible_24_s S interviewer time fu x3 x4).trans ((if_neg c32).trans ((bd1_e hk6).trans ((if_pos (bi_o c44)).trans ((bd1_n ey_8).trans rfl))))))
      exact K_24 (((S 0).toInt - (0 : Int32).toInt).toNat + 1) 0 0 _ _ ls hP hD hS (lv_sub hl [2, 3, 4, 1, 0] rfl) (by decide) (Nat.lt_succ_self _) ((bd1_e hk2).trans ((if_pos (bi_o c5)).trans ((bd1_e hk4).trans ((if_pos (bi_o c14)).trans rfl))))
    · refine lv_iconst (v := (-1)) hx hb dX9_possible_17 (by decide) ?_
      exact endI hx hb hr hlk hP hK hD hS dX9_possible_18 (-1) rfl ⟨(bd1_e hk2).trans ((if_pos (bi_o c5)).trans ((bd1_e hk4).trans ((if_neg (bi_z c14)).trans rfl))), rfl⟩


/-- the loop of X9_daysLeft at 67 -/
def fX9_daysLeft_67 (S : Nat → Int32) : Nat → Int32 → Int32 → Int32 → Int32 → Int32
  | 0, _, _, _, _ => default
  | fu + 1, x1, x2, x3, x4 =>
    (if S 1 ≤ x4 then (if x1 = 0 then 0 else (if x2 = 0 then (-4) else (((x1 + x3) + x2) - 1) / x2)) else bd1 (fX9_ofWho S x4 1) (fun (r_2 : Int32) => bd1 (x2 + r_2) (fun (y_3 : Int32) => bd1 (fX9_ofWho S x4 2) (fun (r_5 : Int32) => bd1 (x3 + r_5) (fun (y_6 : Int32) => fX9_daysLeft_67 S fu x1 y_3 y_6 (x4 + 1))))))
theorem fX9_daysLeft_67_s (S : Nat → Int32) (fu : Nat) (x1 : Int32) (x2 : Int32) (x3 : Int32) (x4 : Int32) : fX9_daysLeft_67 S (fu + 1) x1 x2 x3 x4 =
    (if S 1 ≤ x4 then (if x1 = 0 then 0 else (if x2 = 0 then (-4) else (((x1 + x3) + x2) - 1) / x2)) else bd1 (fX9_ofWho S x4 1) (fun (r_2 : Int32) => bd1 (x2 + r_2) (fun (y_3 : Int32) => bd1 (fX9_ofWho S x4 2) (fun (r_5 : Int32) => bd1 (x3 + r_5) (fun (y_6 : Int32) => fX9_daysLeft_67 S fu x1 y_3 y_6 (x4 + 1)))))) := rfl

/-- the loop of X9_daysLeft at 4 -/
def fX9_daysLeft_4 (S : Nat → Int32) : Nat → Int32 → Int32 → Int32
  | 0, _, _ => default
  | fu + 1, x1, x2 =>
    (if S 0 ≤ x2 then fX9_daysLeft_67 S (((S 1).toInt - (0 : Int32).toInt).toNat + 1) x1 0 0 0 else bd1 (fX9_of S x2 3) (fun (r_8 : Int32) => bd1 ((S 6) - r_8) (fun (y_9 : Int32) => bd1 (fX9_isOpen S x2) (fun (r_11 : Bool) => (if r_11 = true then (if (1 : Int32) ≤ y_9 then bd1 (x1 + y_9) (fun (y_13 : Int32) => fX9_daysLeft_4 S fu y_13 (x2 + 1)) else bd1 (x1 + 1) (fun (y_14 : Int32) => fX9_daysLeft_4 S fu y_14 (x2 + 1))) else bd1 (x1 + 0) (fun (y_12 : Int32) => fX9_daysLeft_4 S fu y_12 (x2 + 1)))))))
theorem fX9_daysLeft_4_s (S : Nat → Int32) (fu : Nat) (x1 : Int32) (x2 : Int32) : fX9_daysLeft_4 S (fu + 1) x1 x2 =
    (if S 0 ≤ x2 then fX9_daysLeft_67 S (((S 1).toInt - (0 : Int32).toInt).toNat + 1) x1 0 0 0 else bd1 (fX9_of S x2 3) (fun (r_8 : Int32) => bd1 ((S 6) - r_8) (fun (y_9 : Int32) => bd1 (fX9_isOpen S x2) (fun (r_11 : Bool) => (if r_11 = true then (if (1 : Int32) ≤ y_9 then bd1 (x1 + y_9) (fun (y_13 : Int32) => fX9_daysLeft_4 S fu y_13 (x2 + 1)) else bd1 (x1 + 1) (fun (y_14 : Int32) => fX9_daysLeft_4 S fu y_14 (x2 + 1))) else bd1 (x1 + 0) (fun (y_12 : Int32) => fX9_daysLeft_4 S fu y_12 (x2 + 1))))))) := rfl

/-- the value of X9_daysLeft, path by path -/
def fX9_daysLeft (S : Nat → Int32) : Int32 :=
  fX9_daysLeft_4 S (((S 0).toInt - (0 : Int32).toInt).toNat + 1) 0 0

set_option maxHeartbeats 4000000 in
set_option maxRecDepth 100000 in
/-- X9_daysLeft -/
theorem mX9_daysLeft (l : Launch) (D : va_G) (cI cC cS : ClassId) (sz : Nat) (o : Nat) (q1 : Nat) (q2 : Nat) (q3 : Nat) (q4 : Nat) (q5 : Nat) (S : Nat → Int32) (Bg : Nat → Int32) (Pa : Nat → Int32) (Tx : Nat → Int32) (Nu : Nat → Int32) (st : Int32) (ln : Int32) (ps : Int32) (fm : Bool) (rs : Int32) (ho : okS S) : Met l yX9_daysLeft wsX9_daysLeft ({ frames := 2, cells := 0, slots := 0, locals := 43 } : Jvm.Room) (va_Pc [.ref o] (wPre D (TY cI cC cS) [(o, .inr (7, [.ref q1, .ref q2, .ref q3, .int st, .ref q4, .int ln, .int ps, .int (bi fm), .int rs, .ref q5])), (q1, .inl (cI, 314, .inl S)), (q2, .inl (cI, 314, .inl Bg)), (q3, .inl (cI, 1256, .inl Pa)), (q4, .inl (cI, 80, .inl Tx)), (q5, .inl (cI, 5, .inl Nu))] sz X0)) (qI D (TY cI cC cS) (fun (r : Int32) (u : Int32) => fX9_daysLeft S = u ∧ r = u) (fun u => [(o, .inr (7, [.ref q1, .ref q2, .ref q3, .int st, .ref q4, .int ln, .int ps, .int (bi fm), .int rs, .ref q5])), (q1, .inl (cI, 314, .inl S)), (q2, .inl (cI, 314, .inl Bg)), (q3, .inl (cI, 1256, .inl Pa)), (q4, .inl (cI, 80, .inl Tx)), (q5, .inl (cI, 5, .inl Nu))]) (va_A [(o, .inr (7, [.ref q1, .ref q2, .ref q3, .int st, .ref q4, .int ln, .int ps, .int (bi fm), .int rs, .ref q5])), (q1, .inl (cI, 314, .inl S)), (q2, .inl (cI, 314, .inl Bg)), (q3, .inl (cI, 1256, .inl Pa)), (q4, .inl (cI, 80, .inl Tx)), (q5, .inl (cI, 5, .inl Nu))] sz)) 0 0 (va_A [(o, .inr (7, [.ref q1, .ref q2, .ref q3, .int st, .ref q4, .int ln, .int ps, .int (bi fm), .int rs, .ref q5])), (q1, .inl (cI, 314, .inl S)), (q2, .inl (cI, 314, .inl Bg)), (q3, .inl (cI, 1256, .inl Pa)), (q4, .inl (cI, 80, .inl Tx)), (q5, .inl (cI, 5, .inl Nu))] sz) := by
  refine mkM (fun Fr => qI D (TY cI cC cS) (fun (r : Int32) (u : Int32) => fX9_daysLeft S = u ∧ r = u) (fun u => [(o, .inr (7, [.ref q1, .ref q2, .ref q3, .int st, .ref q4, .int ln, .int ps, .int (bi fm), .int rs, .ref q5])), (q1, .inl (cI, 314, .inl S)), (q2, .inl (cI, 314, .inl Bg)), (q3, .inl (cI, 1256, .inl Pa)), (q4, .inl (cI, 80, .inl Tx)), (q5, .inl (cI, 5, .inl Nu))]) Fr) (cc := cX9_daysLeft) (maxL := 5) (ret := (some .int)) (own := RX9) (lv := [(0, .ref o)]) (by decide) rfl rfl (Nat.le_of_ble_eq_true rfl) rfl ?_
  intro p e s m below meth c Fr ls hx hb hr hts hown hml hlk hin hP hK hD hS hA hAe hsz hX hl
  have w_1 := hts (.fieldLink RX9 7 "FieldQuotasModel" "s" "[I") (List.mem_of_getElem? (i := 1) rfl)
  have w_2 := sub_r (big := wsX9_daysLeft) (u_ws RX9 TX9 10) [15, 16, 17, 18, 19, 20, 21, 22, 23, 24] rfl
  refine lv_iconst (v := 0) hx hb dX9_daysLeft_0 (by decide) ?_
  refine lv_istore_n (lv' := [(1, .int 0), (0, .ref o)]) hx hb dX9_daysLeft_1 rfl hl (by decide) rfl (fun ls hl => ?_)
  refine lv_iconst (v := 0) hx hb dX9_daysLeft_2 (by decide) ?_
  refine lv_istore_n (lv' := [(2, .int 0), (1, .int 0), (0, .ref o)]) hx hb dX9_daysLeft_3 rfl hl (by decide) rfl (fun ls hl => ?_)
  have K_4 : ∀ (fu : Nat) (x1 : Int32) (x2 : Int32) (H : Heap) (locs : List Loc) (ls : Array Slot), va_P D vwCl [(o, .inr (7, [.ref q1, .ref q2, .ref q3, .int st, .ref q4, .int ln, .int ps, .int (bi fm), .int rs, .ref q5])), (q1, .inl (cI, 314, .inl S)), (q2, .inl (cI, 314, .inl Bg)), (q3, .inl (cI, 1256, .inl Pa)), (q4, .inl (cI, 80, .inl Tx)), (q5, .inl (cI, 5, .inl Nu))] H → va_D Fr [(o, .inr (7, [.ref q1, .ref q2, .ref q3, .int st, .ref q4, .int ln, .int ps, .int (bi fm), .int rs, .ref q5])), (q1, .inl (cI, 314, .inl S)), (q2, .inl (cI, 314, .inl Bg)), (q3, .inl (cI, 1256, .inl Pa)), (q4, .inl (cI, 80, .inl Tx)), (q5, .inl (cI, 5, .inl Nu))] → va_S Fr s.heap H locs → lv_has ls 5 [(0, .ref o), (1, .int x1), (2, .int x2)] → (¬ x2 < 0) → ((S 0).toInt - x2.toInt).toNat < fu → fX9_daysLeft S = fX9_daysLeft_4 S fu x1 x2 → W p l e (headSpec wsX9_daysLeft ({ frames := 2, cells := 0, slots := 0, locals := 43 } : Jvm.Room)).room s m ([.ref o] : List Value).toArray below meth c H locs 0 0 (MQ below (qI D (TY cI cC cS) (fun (r : Int32) (u : Int32) => fX9_daysLeft S = u ∧ r = u) (fun u => [(o, .inr (7, [.ref q1, .ref q2, .ref q3, .int st, .ref q4, .int ln, .int ps, .int (bi fm), .int rs, .ref q5])), (q1, .inl (cI, 314, .inl S)), (q2, .inl (cI, 314, .inl Bg)), (q3, .inl (cI, 1256, .inl Pa)), (q4, .inl (cI, 80, .inl Tx)), (q5, .inl (cI, 5, .inl Nu))]) Fr) ([.ref o] : List Value).toArray s 0 0 Fr) (F0 m 4 ls []) := by
    intro fu
    induction fu with
    | zero => intros; exact absurd (by assumption) (Nat.not_lt_zero _)
    | succ fu ih_4 =>
      intro x1 x2 H locs ls hP hD hS hl hi0 hm_4 E_4
      refine lv_iload_n hx hb dX9_daysLeft_4 rfl (lv_at hl 2 rfl) ?_
      refine lv_aload_n hx hb dX9_daysLeft_5 rfl (lv_at hl 0 rfl) ?_
      refine va_get (D := D) (ci := 7) (C := RX9) (T := TX9) (N := 10) hx hb hts w_2 hown hK hP 0 rfl rfl 0 (by decide) w_1 (fun _ h9 => h9) rfl dX9_daysLeft_6 ?_
      refine lv_iconst (v := 0) hx hb dX9_daysLeft_9 (by decide) ?_
      refine va_iald hx hb hK hP 1 0 rfl rfl (vp_d rfl) dX9_daysLeft_10 ?_
      refine W.eq (g2 := F0 m 11 ls [.int (S 0), .int x2]) rfl ?_
      refine lv_icmp_ge (tgt := 60) hx hb dX9_daysLeft_11 (by decide) (fun c11 => ?_) (fun c11 => ?_)
      · refine lv_iconst (v := 0) hx hb dX9_daysLeft_60 (by decide) ?_
        refine lv_istore_n (lv' := [(2, .int 0), (0, .ref o), (1, .int x1)]) hx hb dX9_daysLeft_61 rfl hl (by decide) rfl (fun ls hl => ?_)
        refine lv_iconst (v := 0) hx hb dX9_daysLeft_62 (by decide) ?_
        refine lv_istore_n (lv' := [(3, .int 0), (2, .int 0), (0, .ref o), (1, .int x1)]) hx hb dX9_daysLeft_63 rfl hl (by decide) rfl (fun ls hl => ?_)
        refine lv_iconst (v := 0) hx hb dX9_daysLeft_64 (by decide) ?_
        refine lv_istore (lv' := [(4, .int 0), (3, .int 0), (2, .int 0), (0, .ref o), (1, .int x1)]) hx hb dX9_daysLeft_65 hl (by decide) rfl (fun ls hl => ?_)
        have K_67 : ∀ (fu : Nat) (x1 : Int32) (x2 : Int32) (x3 : Int32) (x4 : Int32) (H : Heap) (locs : List Loc) (ls : Array Slot), va_P D vwCl [(o, .inr (7, [.ref q1, .ref q2, .ref q3, .int st, .ref q4, .int ln, .int ps, .int (bi fm), .int rs, .ref q5])), (q1, .inl (cI, 314, .inl S)), (q2, .inl (cI, 314, .inl Bg)), (q3, .inl (cI, 1256, .inl Pa)), (q4, .inl (cI, 80, .inl Tx)), (q5, .inl (cI, 5, .inl Nu))] H → va_D Fr [(o, .inr (7, [.ref q1, .ref q2, .ref q3, .int st, .ref q4, .int ln, .int ps, .int (bi fm), .int rs, .ref q5])), (q1, .inl (cI, 314, .inl S)), (q2, .inl (cI, 314, .inl Bg)), (q3, .inl (cI, 1256, .inl Pa)), (q4, .inl (cI, 80, .inl Tx)), (q5, .inl (cI, 5, .inl Nu))] → va_S Fr s.heap H locs → lv_has ls 5 [(0, .ref o), (1, .int x1), (2, .int x2), (3, .int x3), (4, .int x4)] → (¬ x4 < 0) → ((S 1).toInt - x4.toInt).toNat < fu → fX9_daysLeft S = fX9_daysLeft_67 S fu x1 x2 x3 x4 → W p l e (headSpec wsX9_daysLeft ({ frames := 2, cells := 0, slots := 0, locals := 43 } : Jvm.Room)).room s m ([.ref o] : List Value).toArray below meth c H locs 0 0 (MQ below (qI D (TY cI cC cS) (fun (r : Int32) (u : Int32) => fX9_daysLeft S = u ∧ r = u) (fun u => [(o, .inr (7, [.ref q1, .ref q2, .ref q3, .int st, .ref q4, .int ln, .int ps, .int (bi fm), .int rs, .ref q5])), (q1, .inl (cI, 314, .inl S)), (q2, .inl (cI, 314, .inl Bg)), (q3, .inl (cI, 1256, .inl Pa)), (q4, .inl (cI, 80, .inl Tx)), (q5, .inl (cI, 5, .inl Nu))]) Fr) ([.ref o] : List Value).toArray s 0 0 Fr) (F0 m 67 ls []) := by
          intro fu
          induction fu with
          | zero => intros; exact absurd (by assumption) (Nat.not_lt_zero _)
          | succ fu ih_67 =>
            intro x1 x2 x3 x4 H locs ls hP hD hS hl hi0 hm_67 E_67
            refine lv_iload hx hb dX9_daysLeft_67 (lv_at hl 4 rfl) ?_
            refine lv_aload_n hx hb dX9_daysLeft_69 rfl (lv_at hl 0 rfl) ?_
            refine va_get (D := D) (ci := 7) (C := RX9) (T := TX9) (N := 10) hx hb hts w_2 hown hK hP 0 rfl rfl 0 (by decide) w_1 (fun _ h9 => h9) rfl dX9_daysLeft_70 ?_
            refine lv_iconst (v := 1) hx hb dX9_daysLeft_73 (by decide) ?_
            refine va_iald hx hb hK hP 1 0 rfl rfl (vp_d rfl) dX9_daysLeft_74 ?_
            refine W.eq (g2 := F0 m 75 ls [.int (S 1), .int x4]) rfl ?_
            refine lv_icmp_ge (tgt := 104) hx hb dX9_daysLeft_75 (by decide) (fun c75 => ?_) (fun c75 => ?_)
            · refine lv_iload_n hx hb dX9_daysLeft_104 rfl (lv_at hl 1 rfl) ?_
              refine lv_if_ne (tgt := 110) hx hb dX9_daysLeft_105 (by decide) (fun c105 => ?_) (fun c105 => ?_)
              · refine lv_iload_n hx hb dX9_daysLeft_110 rfl (lv_at hl 2 rfl) ?_
                refine lv_if_ne (tgt := 117) hx hb dX9_daysLeft_111 (by decide) (fun c111 => ?_) (fun c111 => ?_)
                · refine lv_iload_n hx hb dX9_daysLeft_117 rfl (lv_at hl 1 rfl) ?_
                  refine lv_iload_n hx hb dX9_daysLeft_118 rfl (lv_at hl 3 rfl) ?_
                  refine lv_iadd hx hb dX9_daysLeft_119 ?_
                  refine lv_iload_n hx hb dX9_daysLeft_120 rfl (lv_at hl 2 rfl) ?_
                  refine lv_iadd hx hb dX9_daysLeft_121 ?_
                  refine lv_iconst (v := 1) hx hb dX9_daysLeft_122 (by decide) ?_
                  refine lv_isub hx hb dX9_daysLeft_123 ?_
                  refine lv_iload_n hx hb dX9_daysLeft_124 rfl (lv_at hl 2 rfl) ?_
                  refine lv_idiv hx hb dX9_daysLeft_125 (fun h => c111 h) ?_
                  exact endI hx hb hr hlk hP hK hD hS dX9_daysLeft_126 ((((x1 + x3) + x2) - 1) / x2) rfl ⟨(E_67).trans ((fX9_daysLeft_67_s S fu x1 x2 x3 x4).trans ((if_pos c75).trans ((if_neg c105).trans ((if_neg c111).trans rfl)))), rfl⟩
                · refine lv_bipush (v := (-4)) hx hb dX9_daysLeft_114 (by decide) ?_
                  exact endI hx hb hr hlk hP hK hD hS dX9_daysLeft_116 (-4) rfl ⟨(E_67).trans ((fX9_daysLeft_67_s S fu x1 x2 x3 x4).trans ((if_pos c75).trans ((if_neg c105).trans ((if_pos c111).trans rfl)))), rfl⟩
              · refine lv_iconst (v := 0) hx hb dX9_daysLeft_108 (by decide) ?_
                exact endI hx hb hr hlk hP hK hD hS dX9_daysLeft_109 0 rfl ⟨(E_67).trans ((fX9_daysLeft_67_s S fu x1 x2 x3 x4).trans ((if_pos c75).trans ((if_pos c105).trans rfl))), rfl⟩
            · refine lv_iload_n hx hb dX9_daysLeft_78 rfl (lv_at hl 2 rfl) ?_
              refine lv_aload_n hx hb dX9_daysLeft_79 rfl (lv_at hl 0 rfl) ?_
              refine lv_iload hx hb dX9_daysLeft_80 (lv_at hl 4 rfl) ?_
              refine lv_iconst (v := 1) hx hb dX9_daysLeft_82 (by decide) ?_
              refine callVi (As := [.int x4, .int 1]) (rest := [.int x2]) (mX9_ofWho l D cI cC cS _ o q1 q2 q3 q4 q5 S Bg Pa Tx Nu st ln ps fm rs x4 1 (vp_k hi0 c75 ho.2.1) (vp_d rfl)) ⟨hx, hb, hml, hown, hts⟩ (cwV 2 hts gX9_daysLeft_X9_ofWho rfl rfl rfl (by decide +kernel) ⟨Nat.le_of_ble_eq_true rfl, Nat.le_of_ble_eq_true rfl⟩) X0_blind (fun _ _ _ => trivial) hP hK hD hS hA hl [0, 1, 2, 3, 4, 5] rfl rfl 0 7 rfl rfl rfl rfl rfl (Nat.le_of_ble_eq_true rfl) dX9_daysLeft_83 ⟨Nat.zero_le _, Nat.zero_le _⟩ (fun _ => rfl) (fun u_ H locs hk2 hP hD hS => ?_)
              obtain ⟨r_2, e_r_2⟩ : ∃ z, z = u_ := ⟨_, rfl⟩
              subst e_r_2
              have hP : va_P D vwCl [(o, .inr (7, [.ref q1, .ref q2, .ref q3, .int st, .ref q4, .int ln, .int ps, .int (bi fm), .int rs, .ref q5])), (q1, .inl (cI, 314, .inl S)), (q2, .inl (cI, 314, .inl Bg)), (q3, .inl (cI, 1256, .inl Pa)), (q4, .inl (cI, 80, .inl Tx)), (q5, .inl (cI, 5, .inl Nu))] H := hP
              have hD : va_D Fr [(o, .inr (7, [.ref q1, .ref q2, .ref q3, .int st, .ref q4, .int ln, .int ps, .int (bi fm), .int rs, .ref q5])), (q1, .inl (cI, 314, .inl S)), (q2, .inl (cI, 314, .inl Bg)), (q3, .inl (cI, 1256, .inl Pa)), (q4, .inl (cI, 80, .inl Tx)), (q5, .inl (cI, 5, .inl Nu))] := hD
              refine W.eq (g2 := F0 m 86 ls [.int r_2, .int x2]) rfl ?_
              refine lv_iadd hx hb dX9_daysLeft_86 ?_
              refine lv_topi (fun y_3 ey_3 => ?_)
              refine lv_istore_n (lv' := [(2, .int y_3), (0, .ref o), (1, .int x1), (3, .int x3), (4, .int x4)]) hx hb dX9_daysLeft_87 rfl hl (by decide) rfl (fun ls hl => ?_)
              refine lv_iload_n hx hb dX9_daysLeft_88 rfl (lv_at hl 3 rfl) ?_
              refine lv_aload_n hx hb dX9_daysLeft_89 rfl (lv_at hl 1 rfl) ?_
              refine lv_iload hx hb dX9_daysLeft_90 (lv_at hl 4 rfl) ?_
              refine lv_iconst (v := 2) hx hb dX9_daysLeft_92 (by decide) ?_
              refine callVi (As := [.int x4, .int 2]) (rest := [.int x3]) (mX9_ofWho l D cI cC cS _ o q1 q2 q3 q4 q5 S Bg Pa Tx Nu st ln ps fm rs x4 2 (vp_k hi0 c75 ho.2.1) (vp_d rfl)) ⟨hx, hb, hml, hown, hts⟩ (cwV 2 hts gX9_daysLeft_X9_ofWho rfl rfl rfl (by decide +kernel) ⟨Nat.le_of_ble_eq_true rfl, Nat.le_of_ble_eq_true rfl⟩) X0_blind (fun _ _ _ => trivial) hP hK hD hS hA hl [0, 1, 2, 3, 4, 5] rfl rfl 0 7 rfl rfl rfl rfl rfl (Nat.le_of_ble_eq_true rfl) dX9_daysLeft_93 ⟨Nat.zero_le _, Nat.zero_le _⟩ (fun _ => rfl) (fun u_ H locs hk5 hP hD hS => ?_)
              obtain ⟨r_5, e_r_5⟩ : ∃ z, z = u_ := ⟨_, rfl⟩
              subst e_r_5
              have hP : va_P D vwCl [(o, .inr (7, [.ref q1, .ref q2, .ref q3, .int st, .ref q4, .int ln, .int ps, .int (bi fm), .int rs, .ref q5])), (q1, .inl (cI, 314, .inl S)), (q2, .inl (cI, 314, .inl Bg)), (q3, .inl (cI, 1256, .inl Pa)), (q4, .inl (cI, 80, .inl Tx)), (q5, .inl (cI, 5, .inl Nu))] H := hP
              have hD : va_D Fr [(o, .inr (7, [.ref q1, .ref q2, .ref q3, .int st, .ref q4, .int ln, .int ps, .int (bi fm), .int rs, .ref q5])), (q1, .inl (cI, 314, .inl S)), (q2, .inl (cI, 314, .inl Bg)), (q3, .inl (cI, 1256, .inl Pa)), (q4, .inl (cI, 80, .inl Tx)), (q5, .inl (cI, 5, .inl Nu))] := hD
              refine W.eq (g2 := F0 m 96 ls [.int r_5, .int x3]) rfl ?_
              refine lv_iadd hx hb dX9_daysLeft_96 ?_
              refine lv_topi (fun y_6 ey_6 => ?_)
              refine lv_istore_n (lv' := [(3, .int y_6), (2, .int y_3), (0, .ref o), (1, .int x1), (4, .int x4)]) hx hb dX9_daysLeft_97 rfl hl (by decide) rfl (fun ls hl => ?_)
              refine lv_iinc (v := x4 + 1) (lv' := [(4, .int (x4 + 1)), (3, .int y_6), (2, .int y_3), (0, .ref o), (1, .int x1)]) hx hb dX9_daysLeft_98 hl (k := 4) rfl (by rfl) (by decide) rfl (fun ls hl => ?_)
              refine lv_goto (tgt := 67) hx hb dX9_daysLeft_101 (by decide) ?_
              exact ih_67 x1 y_3 y_6 (x4 + 1) _ _ ls hP hD hS (lv_sub hl [3, 4, 2, 1, 0] rfl) (up_k hi0 c75) (Nat.lt_of_lt_of_le (lp_dec c75) (Nat.le_of_lt_succ hm_67)) ((E_67).trans ((fX9_daysLeft_67_s S fu x1 x2 x3 x4).trans ((if_neg c75).trans ((bd1_e hk2).trans ((bd1_n ey_3).trans ((bd1_e hk5).trans ((bd1_n ey_6).trans rfl)))))))
        exact K_67 (((S 1).toInt - (0 : Int32).toInt).toNat + 1) x1 0 0 0 _ _ ls hP hD hS (lv_sub hl [3, 4, 2, 1, 0] rfl) (by decide) (Nat.lt_succ_self _) ((E_4).trans ((fX9_daysLeft_4_s S fu x1 x2).trans ((if_pos c11).trans rfl)))
      · refine lv_aload_n hx hb dX9_daysLeft_14 rfl (lv_at hl 0 rfl) ?_
        refine va_get (D := D) (ci := 7) (C := RX9) (T := TX9) (N := 10) hx hb hts w_2 hown hK hP 0 rfl rfl 0 (by decide) w_1 (fun _ h9 => h9) rfl dX9_daysLeft_15 ?_
        refine lv_bipush (v := 6) hx hb dX9_daysLeft_18 (by decide) ?_
        refine va_iald hx hb hK hP 1 0 rfl rfl (vp_d rfl) dX9_daysLeft_20 ?_
        refine W.eq (g2 := F0 m 21 ls [.int (S 6)]) rfl ?_
        refine lv_aload_n hx hb dX9_daysLeft_21 rfl (lv_at hl 0 rfl) ?_
        refine lv_iload_n hx hb dX9_daysLeft_22 rfl (lv_at hl 2 rfl) ?_
        refine lv_iconst (v := 3) hx hb dX9_daysLeft_23 (by decide) ?_
        refine callVi (As := [.int x2, .int 3]) (rest := [.int (S 6)]) (mX9_of l D cI cC cS _ o q1 q2 q3 q4 q5 S Bg Pa Tx Nu st ln ps fm rs x2 3 (vp_k hi0 c11 ho.1) (vp_d rfl)) ⟨hx, hb, hml, hown, hts⟩ (cwV 2 hts gX9_daysLeft_X9_of rfl rfl rfl (by decide +kernel) ⟨Nat.le_of_ble_eq_true rfl, Nat.le_of_ble_eq_true rfl⟩) X0_blind (fun _ _ _ => trivial) hP hK hD hS hA hl [0, 1, 2, 3, 4, 5] rfl rfl 0 7 rfl rfl rfl rfl rfl (Nat.le_of_ble_eq_true rfl) dX9_daysLeft_24 ⟨Nat.zero_le _, Nat.zero_le _⟩ (fun _ => rfl) (fun u_ H locs hk8 hP hD hS => ?_)
        obtain ⟨r_8, e_r_8⟩ : ∃ z, z = u_ := ⟨_, rfl⟩
        subst e_r_8
        have hP : va_P D vwCl [(o, .inr (7, [.ref q1, .ref q2, .ref q3, .int st, .ref q4, .int ln, .int ps, .int (bi fm), .int rs, .ref q5])), (q1, .inl (cI, 314, .inl S)), (q2, .inl (cI, 314, .inl Bg)), (q3, .inl (cI, 1256, .inl Pa)), (q4, .inl (cI, 80, .inl Tx)), (q5, .inl (cI, 5, .inl Nu))] H := hP
        have hD : va_D Fr [(o, .inr (7, [.ref q1, .ref q2, .ref q3, .int st, .ref q4, .int ln, .int ps, .int (bi fm), .int rs, .ref q5])), (q1, .inl (cI, 314, .inl S)), (q2, .inl (cI, 314, .inl Bg)), (q3, .inl (cI, 1256, .inl Pa)), (q4, .inl (cI, 80, .inl Tx)), (q5, .inl (cI, 5, .inl Nu))] := hD
        refine W.eq (g2 := F0 m 27 ls [.int r_8, .int (S 6)]) rfl ?_
        refine lv_isub hx hb dX9_daysLeft_27 ?_
        refine lv_topi (fun y_9 ey_9 => ?_)
        refine lv_istore_n (lv' := [(3, .int y_9), (0, .ref o), (1, .int x1), (2, .int x2)]) hx hb dX9_daysLeft_28 rfl hl (by decide) rfl (fun ls hl => ?_)
        refine lv_iload_n hx hb dX9_daysLeft_29 rfl (lv_at hl 2 rfl) ?_
        refine lv_aload_n hx hb dX9_daysLeft_30 rfl (lv_at hl 1 rfl) ?_
        refine lv_iload_n hx hb dX9_daysLeft_31 rfl (lv_at hl 3 rfl) ?_
        refine callVi (As := [.int x2]) (rest := [.int x1]) (mX9_isOpen l D cI cC cS _ o q1 q2 q3 q4 q5 S Bg Pa Tx Nu st ln ps fm rs x2 (vp_k hi0 c11 ho.1)) ⟨hx, hb, hml, hown, hts⟩ (cwV 1 hts gX9_daysLeft_X9_isOpen rfl rfl rfl (by decide +kernel) ⟨Nat.le_of_ble_eq_true rfl, Nat.le_of_ble_eq_true rfl⟩) X0_blind (fun _ _ _ => trivial) hP hK hD hS hA hl [0, 1, 2, 3, 4, 5] rfl rfl 0 7 rfl rfl rfl rfl rfl (Nat.le_of_ble_eq_true rfl) dX9_daysLeft_32 ⟨Nat.zero_le _, Nat.zero_le _⟩ (fun _ => rfl) (fun u_ H locs hk11 hP hD hS => ?_)
        obtain ⟨r_11, e_r_11⟩ : ∃ z, z = u_ := ⟨_, rfl⟩
        subst e_r_11
        have hP : va_P D vwCl [(o, .inr (7, [.ref q1, .ref q2, .ref q3, .int st, .ref q4, .int ln, .int ps, .int (bi fm), .int rs, .ref q5])), (q1, .inl (cI, 314, .inl S)), (q2, .inl (cI, 314, .inl Bg)), (q3, .inl (cI, 1256, .inl Pa)), (q4, .inl (cI, 80, .inl Tx)), (q5, .inl (cI, 5, .inl Nu))] H := hP
        have hD : va_D Fr [(o, .inr (7, [.ref q1, .ref q2, .ref q3, .int st, .ref q4, .int ln, .int ps, .int (bi fm), .int rs, .ref q5])), (q1, .inl (cI, 314, .inl S)), (q2, .inl (cI, 314, .inl Bg)), (q3, .inl (cI, 1256, .inl Pa)), (q4, .inl (cI, 80, .inl Tx)), (q5, .inl (cI, 5, .inl Nu))] := hD
        refine W.eq (g2 := F0 m 35 ls [.int (bi r_11), .int x1]) rfl ?_
        refine lv_if_eq (tgt := 51) hx hb dX9_daysLeft_35 (by decide) (fun c35 => ?_) (fun c35 => ?_)
        · refine lv_iconst (v := 0) hx hb dX9_daysLeft_51 (by decide) ?_
          refine lv_iadd hx hb dX9_daysLeft_52 ?_
          refine lv_topi (fun y_12 ey_12 => ?_)
          refine lv_istore_n (lv' := [(1, .int y_12), (3, .int y_9), (0, .ref o), (2, .int x2)]) hx hb dX9_daysLeft_53 rfl hl (by decide) rfl (fun ls hl => ?_)
          refine lv_iinc (v := x2 + 1) (lv' := [(2, .int (x2 + 1)), (1, .int y_12), (3, .int y_9), (0, .ref o)]) hx hb dX9_daysLeft_54 hl (k := 3) rfl (by rfl) (by decide) rfl (fun ls hl => ?_)
          refine lv_goto (tgt := 4) hx hb dX9_daysLeft_57 (by decide) ?_
          exact ih_4 y_12 (x2 + 1) _ _ ls hP hD hS (lv_sub hl [3, 1, 0] rfl) (up_k hi0 c11) (Nat.lt_of_lt_of_le (lp_dec c11) (Nat.le_of_lt_succ hm_4)) ((E_4).trans ((fX9_daysLeft_4_s S fu x1 x2).trans ((if_neg c11).trans ((bd1_e hk8).trans ((bd1_n ey_9).trans ((bd1_e hk11).trans ((if_neg (bi_z c35)).trans ((bd1_n ey_12).trans rfl))))))))
        · refine lv_iload_n hx hb dX9_daysLeft_38 rfl (lv_at hl 0 rfl) ?_
          refine lv_iconst (v := 1) hx hb dX9_daysLeft_39 (by decide) ?_
          refine lv_icmp_ge (tgt := 47) hx hb dX9_daysLeft_40 (by decide) (fun c40 => ?_) (fun c40 => ?_)
          · refine lv_iload_n hx hb dX9_daysLeft_47 rfl (lv_at hl 0 rfl) ?_
            refine lv_goto (tgt := 52) hx hb dX9_daysLeft_48 (by decide) ?_
            refine lv_iadd hx hb dX9_daysLeft_52 ?_
            refine lv_topi (fun y_13 ey_13 => ?_)
            refine lv_istore_n (lv' := [(1, .int y_13), (3, .int y_9), (0, .ref o), (2, .int x2)]) hx hb dX9_daysLeft_53 rfl hl (by decide) rfl (fun ls hl => ?_)
            refine lv_iinc (v := x2 + 1) (lv' := [(2, .int (x2 + 1)), (1, .int y_13), (3, .int y_9), (0, .ref o)]) hx hb dX9_daysLeft_54 hl (k := 3) rfl (by rfl) (by decide) rfl (fun ls hl => ?_)
            refine lv_goto (tgt := 4) hx hb dX9_daysLeft_57 (by decide) ?_
            exact ih_4 y_13 (x2 + 1) _ _ ls hP hD hS (lv_sub hl [3, 1, 0] rfl) (up_k hi0 c11) (Nat.lt_of_lt_of_le (lp_dec c11) (Nat.le_of_lt_succ hm_4)) ((E_4).trans ((fX9_daysLeft_4_s S fu x1 x2).trans ((if_neg c11).trans ((bd1_e hk8).trans ((bd1_n ey_9).trans ((bd1_e hk11).trans ((if_pos (bi_o c35)).trans ((if_pos c40).trans ((bd1_n ey_13).trans rfl)))))))))
          · refine lv_iconst (v := 1) hx hb dX9_daysLeft_43 (by decide) ?_
            refine lv_goto (tgt := 52) hx hb dX9_daysLeft_44 (by decide) ?_
            refine lv_iadd hx hb dX9_daysLeft_52 ?_
            refine lv_topi (fun y_14 ey_14 => ?_)
            refine lv_istore_n (lv' := [(1, .int y_14), (3, .int y_9), (0, .ref o), (2, .int x2)]) hx hb dX9_daysLeft_53 rfl hl (by decide) rfl (fun ls hl => ?_)
            refine lv_iinc (v := x2 + 1) (lv' := [(2, .int (x2 + 1)), (1, .int y_14), (3, .int y_9), (0, .ref o)]) hx hb dX9_daysLeft_54 hl (k := 3) rfl (by rfl) (by decide) rfl (fun ls hl => ?_)
            refine lv_goto (tgt := 4) hx hb dX9_daysLeft_57 (by decide) ?_
            exact ih_4 y_14 (x2 + 1) _ _ ls hP hD hS (lv_sub hl [3, 1, 0] rfl) (up_k hi0 c11) (Nat.lt_of_lt_of_le (lp_dec c11) (Nat.le_of_lt_succ hm_4)) ((E_4).trans ((fX9_daysLeft_4_s S fu x1 x2).trans ((if_neg c11).trans ((bd1_e hk8).trans ((bd1_n ey_9).trans ((bd1_e hk11).trans ((if_pos (bi_o c35)).trans ((if_neg c40).trans ((bd1_n ey_14).trans rfl)))))))))
  exact K_4 (((S 0).toInt - (0 : Int32).toInt).toNat + 1) 0 0 _ _ ls hP hD hS (lv_sub hl [2, 1, 0] rfl) (by decide) (Nat.lt_succ_self _) rfl


/-- the value of X9_adds, path by path -/
def fX9_adds (S : Nat → Int32) (area : Int32) : Int32 × (Nat → Int32) :=
  bd1 (fX9_in area 0 3) (fun (r_2 : Bool) => (if r_2 = true then (if S 0 = 24 then ((-3), S) else (((upd (upd S ((74 + (10 * (S 0))) + 0).toNatClampNeg area) 0 (((upd S ((74 + (10 * (S 0))) + 0).toNatClampNeg area) 0) + 1)) 0) - 1, upd (upd S ((74 + (10 * (S 0))) + 0).toNatClampNeg area) 0 (((upd S ((74 + (10 * (S 0))) + 0).toNatClampNeg area) 0) + 1))) else ((-1), S)))

set_option maxHeartbeats 4000000 in
set_option maxRecDepth 100000 in
/-- X9_adds -/
theorem mX9_adds (l : Launch) (D : va_G) (cI cC cS : ClassId) (sz : Nat) (o : Nat) (q1 : Nat) (q2 : Nat) (q3 : Nat) (q4 : Nat) (q5 : Nat) (S : Nat → Int32) (Bg : Nat → Int32) (Pa : Nat → Int32) (Tx : Nat → Int32) (Nu : Nat → Int32) (st : Int32) (ln : Int32) (ps : Int32) (fm : Bool) (rs : Int32) (area : Int32) (hm : vp_in (S 0) 25) : Met l yX9_adds wsX9_adds ({ frames := 1, cells := 0, slots := 0, locals := 22 } : Jvm.Room) (va_Pc [.ref o, .int area] (wPre D (TY cI cC cS) [(o, .inr (7, [.ref q1, .ref q2, .ref q3, .int st, .ref q4, .int ln, .int ps, .int (bi fm), .int rs, .ref q5])), (q1, .inl (cI, 314, .inl S)), (q2, .inl (cI, 314, .inl Bg)), (q3, .inl (cI, 1256, .inl Pa)), (q4, .inl (cI, 80, .inl Tx)), (q5, .inl (cI, 5, .inl Nu))] sz X0)) (qI D (TY cI cC cS) (fun (r : Int32) (u : Int32 × (Nat → Int32)) => fX9_adds S area = u ∧ r = u.1) (fun u => [(o, .inr (7, [.ref q1, .ref q2, .ref q3, .int st, .ref q4, .int ln, .int ps, .int (bi fm), .int rs, .ref q5])), (q1, .inl (cI, 314, .inl u.2)), (q2, .inl (cI, 314, .inl Bg)), (q3, .inl (cI, 1256, .inl Pa)), (q4, .inl (cI, 80, .inl Tx)), (q5, .inl (cI, 5, .inl Nu))]) (va_A [(o, .inr (7, [.ref q1, .ref q2, .ref q3, .int st, .ref q4, .int ln, .int ps, .int (bi fm), .int rs, .ref q5])), (q1, .inl (cI, 314, .inl S)), (q2, .inl (cI, 314, .inl Bg)), (q3, .inl (cI, 1256, .inl Pa)), (q4, .inl (cI, 80, .inl Tx)), (q5, .inl (cI, 5, .inl Nu))] sz)) 0 0 (va_A [(o, .inr (7, [.ref q1, .ref q2, .ref q3, .int st, .ref q4, .int ln, .int ps, .int (bi fm), .int rs, .ref q5])), (q1, .inl (cI, 314, .inl S)), (q2, .inl (cI, 314, .inl Bg)), (q3, .inl (cI, 1256, .inl Pa)), (q4, .inl (cI, 80, .inl Tx)), (q5, .inl (cI, 5, .inl Nu))] sz) := by
  refine mkM (fun Fr => qI D (TY cI cC cS) (fun (r : Int32) (u : Int32 × (Nat → Int32)) => fX9_adds S area = u ∧ r = u.1) (fun u => [(o, .inr (7, [.ref q1, .ref q2, .ref q3, .int st, .ref q4, .int ln, .int ps, .int (bi fm), .int rs, .ref q5])), (q1, .inl (cI, 314, .inl u.2)), (q2, .inl (cI, 314, .inl Bg)), (q3, .inl (cI, 1256, .inl Pa)), (q4, .inl (cI, 80, .inl Tx)), (q5, .inl (cI, 5, .inl Nu))]) Fr) (cc := cX9_adds) (maxL := 2) (ret := (some .int)) (own := RX9) (lv := [(0, .ref o), (1, .int area)]) (by decide) rfl rfl (Nat.le_of_ble_eq_true rfl) rfl ?_
  intro p e s m below meth c Fr ls hx hb hr hts hown hml hlk hin hP hK hD hS hA hAe hsz hX hl
  have w_1 := hts (.fieldLink RX9 7 "FieldQuotasModel" "s" "[I") (List.mem_of_getElem? (i := 1) rfl)
  have w_2 := sub_r (big := wsX9_adds) (u_ws RX9 TX9 10) [6, 7, 8, 9, 10, 11, 12, 13, 14, 15] rfl
  refine lv_iload_n hx hb dX9_adds_0 rfl (lv_at hl 1 rfl) ?_
  refine lv_iconst (v := 0) hx hb dX9_adds_1 (by decide) ?_
  refine lv_iconst (v := 3) hx hb dX9_adds_2 (by decide) ?_
  refine callSi (As := [.int area, .int 0, .int 3]) (rest := []) (mX9_in l D cI cC cS _ area 0 3) ⟨hx, hb, hml, hown, hts⟩ (va_cwS 3 hts gX9_adds_X9_in rfl rfl rfl (by decide +kernel) ⟨Nat.le_of_ble_eq_true rfl, Nat.le_of_ble_eq_true rfl⟩) hP hK hD hS hA hl rfl rfl (Nat.le_of_ble_eq_true rfl) dX9_adds_3 ⟨Nat.zero_le _, Nat.zero_le _⟩ (fun u_ H locs hk2 hP hS => ?_)
  obtain ⟨r_2, e_r_2⟩ : ∃ z, z = u_ := ⟨_, rfl⟩
  subst e_r_2
  refine W.eq (g2 := F0 m 6 ls [.int (bi r_2)]) rfl ?_
  refine lv_if_ne (tgt := 11) hx hb dX9_adds_6 (by decide) (fun c6 => ?_) (fun c6 => ?_)
  · refine lv_aload_n hx hb dX9_adds_11 rfl (lv_at hl 0 rfl) ?_
    refine va_get (D := D) (ci := 7) (C := RX9) (T := TX9) (N := 10) hx hb hts w_2 hown hK hP 0 rfl rfl 0 (by decide) w_1 (fun _ h9 => h9) rfl dX9_adds_12 ?_
    refine lv_iconst (v := 0) hx hb dX9_adds_15 (by decide) ?_
    refine va_iald hx hb hK hP 1 0 rfl rfl (vp_d rfl) dX9_adds_16 ?_
    refine W.eq (g2 := F0 m 17 ls [.int (S 0)]) rfl ?_
    refine lv_bipush (v := 24) hx hb dX9_adds_17 (by decide) ?_
    refine lv_icmp_ne (tgt := 25) hx hb dX9_adds_19 (by decide) (fun c19 => ?_) (fun c19 => ?_)
    · refine lv_aload_n hx hb dX9_adds_25 rfl (lv_at hl 0 rfl) ?_
      refine va_get (D := D) (ci := 7) (C := RX9) (T := TX9) (N := 10) hx hb hts w_2 hown hK hP 0 rfl rfl 0 (by decide) w_1 (fun _ h9 => h9) rfl dX9_adds_26 ?_
      refine lv_bipush (v := 74) hx hb dX9_adds_29 (by decide) ?_
      refine lv_bipush (v := 10) hx hb dX9_adds_31 (by decide) ?_
      refine lv_aload_n hx hb dX9_adds_33 rfl (lv_at hl 0 rfl) ?_
      refine va_get (D := D) (ci := 7) (C := RX9) (T := TX9) (N := 10) hx hb hts w_2 hown hK hP 0 rfl rfl 0 (by decide) w_1 (fun _ h9 => h9) rfl dX9_adds_34 ?_
      refine lv_iconst (v := 0) hx hb dX9_adds_37 (by decide) ?_
      refine va_iald hx hb hK hP 1 0 rfl rfl (vp_d rfl) dX9_adds_38 ?_
      refine W.eq (g2 := F0 m 39 ls [.int (S 0), .int 10, .int 74, .ref q1]) rfl ?_
      refine lv_imul hx hb dX9_adds_39 ?_
      refine lv_iadd hx hb dX9_adds_40 ?_
      refine lv_iconst (v := 0) hx hb dX9_adds_41 (by decide) ?_
      refine lv_iadd hx hb dX9_adds_42 ?_
      refine lv_iload_n hx hb dX9_adds_43 rfl (lv_at hl 1 rfl) ?_
      refine va_iast hx hb hK hP hD hS 1 0 rfl rfl (ix_pl (vp_ne hm (by decide) c19) (vp_d rfl)) dX9_adds_44 (fun H locs hP hD hS => ?_)
      have hP : va_P D vwCl [(o, .inr (7, [.ref q1, .ref q2, .ref q3, .int st, .ref q4, .int ln, .int ps, .int (bi fm), .int rs, .ref q5])), (q1, .inl (cI, 314, .inl (upd S ((74 + (10 * (S 0))) + 0).toNatClampNeg area))), (q2, .inl (cI, 314, .inl Bg)), (q3, .inl (cI, 1256, .inl Pa)), (q4, .inl (cI, 80, .inl Tx)), (q5, .inl (cI, 5, .inl Nu))] H := hP
      have hD : va_D Fr [(o, .inr (7, [.ref q1, .ref q2, .ref q3, .int st, .ref q4, .int ln, .int ps, .int (bi fm), .int rs, .ref q5])), (q1, .inl (cI, 314, .inl (upd S ((74 + (10 * (S 0))) + 0).toNatClampNeg area))), (q2, .inl (cI, 314, .inl Bg)), (q3, .inl (cI, 1256, .inl Pa)), (q4, .inl (cI, 80, .inl Tx)), (q5, .inl (cI, 5, .inl Nu))] := hD
      refine lv_aload_n hx hb dX9_adds_45 rfl (lv_at hl 0 rfl) ?_
      refine va_get (D := D) (ci := 7) (C := RX9) (T := TX9) (N := 10) hx hb hts w_2 hown hK hP 0 rfl rfl 0 (by decide) w_1 (fun _ h9 => h9) rfl dX9_adds_46 ?_
      refine lv_iconst (v := 0) hx hb dX9_adds_49 (by decide) ?_
      refine lv_dup2_11 hx hb dX9_adds_50 rfl rfl ?_
      refine va_iald hx hb hK hP 1 0 rfl rfl (vp_d rfl) dX9_adds_51 ?_
      refine W.eq (g2 := F0 m 52 ls [.int ((upd S ((74 + (10 * (S 0))) + 0).toNatClampNeg area) 0), .int 0, .ref q1]) rfl ?_
      refine lv_iconst (v := 1) hx hb dX9_adds_52 (by decide) ?_
      refine lv_iadd hx hb dX9_adds_53 ?_
      refine va_iast hx hb hK hP hD hS 1 0 rfl rfl (vp_d rfl) dX9_adds_54 (fun H locs hP hD hS => ?_)
      have hP : va_P D vwCl [(o, .inr (7, [.ref q1, .ref q2, .ref q3, .int st, .ref q4, .int ln, .int ps, .int (bi fm), .int rs, .ref q5])), (q1, .inl (cI, 314, .inl (upd (upd S ((74 + (10 * (S 0))) + 0).toNatClampNeg area) 0 (((upd S ((74 + (10 * (S 0))) + 0).toNatClampNeg area) 0) + 1)))), (q2, .inl (cI, 314, .inl Bg)), (q3, .inl (cI, 1256, .inl Pa)), (q4, .inl (cI, 80, .inl Tx)), (q5, .inl (cI, 5, .inl Nu))] H := hP
      have hD : va_D Fr [(o, .inr (7, [.ref q1, .ref q2, .ref q3, .int st, .ref q4, .int ln, .int ps, .int (bi fm), .int rs, .ref q5])), (q1, .inl (cI, 314, .inl (upd (upd S ((74 + (10 * (S 0))) + 0).toNatClampNeg area) 0 (((upd S ((74 + (10 * (S 0))) + 0).toNatClampNeg area) 0) + 1)))), (q2, .inl (cI, 314, .inl Bg)), (q3, .inl (cI, 1256, .inl Pa)), (q4, .inl (cI, 80, .inl Tx)), (q5, .inl (cI, 5, .inl Nu))] := hD
      refine lv_aload_n hx hb dX9_adds_55 rfl (lv_at hl 0 rfl) ?_
      refine va_get (D := D) (ci := 7) (C := RX9) (T := TX9) (N := 10) hx hb hts w_2 hown hK hP 0 rfl rfl 0 (by decide) w_1 (fun _ h9 => h9) rfl dX9_adds_56 ?_
      refine lv_iconst (v := 0) hx hb dX9_adds_59 (by decide) ?_
      refine va_iald hx hb hK hP 1 0 rfl rfl (vp_d rfl) dX9_adds_60 ?_
      refine W.eq (g2 := F0 m 61 ls [.int ((upd (upd S ((74 + (10 * (S 0))) + 0).toNatClampNeg area) 0 (((upd S ((74 + (10 * (S 0))) + 0).toNatClampNeg area) 0) + 1)) 0)]) rfl ?_
      refine lv_iconst (v := 1) hx hb dX9_adds_61 (by decide) ?_
      refine lv_isub hx hb dX9_adds_62 ?_
      exact endI hx hb hr hlk hP hK hD hS dX9_adds_63 (((upd (upd S ((74 + (10 * (S 0))) + 0).toNatClampNeg area) 0 (((upd S ((74 + (10 * (S 0))) + 0).toNatClampNeg area) 0) + 1)) 0) - 1, upd (upd S ((74 + (10 * (S 0))) + 0).toNatClampNeg area) 0 (((upd S ((74 + (10 * (S 0))) + 0).toNatClampNeg area) 0) + 1)) rfl ⟨(bd1_e hk2).trans ((if_pos (bi_o c6)).trans ((if_neg c19).trans rfl)), rfl⟩
    · refine lv_bipush (v := (-3)) hx hb dX9_adds_22 (by decide) ?_
      exact endI hx hb hr hlk hP hK hD hS dX9_adds_24 ((-3), S) rfl ⟨(bd1_e hk2).trans ((if_pos (bi_o c6)).trans ((if_pos c19).trans rfl)), rfl⟩
  · refine lv_iconst (v := (-1)) hx hb dX9_adds_9 (by decide) ?_
    exact endI hx hb hr hlk hP hK hD hS dX9_adds_10 ((-1), S) rfl ⟨(bd1_e hk2).trans ((if_neg (bi_z c6)).trans rfl), rfl⟩


/-- the value of X9_comes, path by path -/
def fX9_comes (S : Nat → Int32) (area : Int32) (load : Int32) : Int32 × (Nat → Int32) :=
  bd1 (fX9_in area 0 3) (fun (r_2 : Bool) => (if r_2 = true then bd1 (fX9_in load 1 9) (fun (r_4 : Bool) => (if r_4 = true then (if S 1 = 5 then ((-3), S) else (((upd (upd (upd S ((44 + (6 * (S 1))) + 0).toNatClampNeg area) ((44 + (6 * ((upd S ((44 + (6 * (S 1))) + 0).toNatClampNeg area) 1))) + 1).toNatClampNeg load) 1 (((upd (upd S ((44 + (6 * (S 1))) + 0).toNatClampNeg area) ((44 + (6 * ((upd S ((44 + (6 * (S 1))) + 0).toNatClampNeg area) 1))) + 1).toNatClampNeg load) 1) + 1)) 1) - 1, upd (upd (upd S ((44 + (6 * (S 1))) + 0).toNatClampNeg area) ((44 + (6 * ((upd S ((44 + (6 * (S 1))) + 0).toNatClampNeg area) 1))) + 1).toNatClampNeg load) 1 (((upd (upd S ((44 + (6 * (S 1))) + 0).toNatClampNeg area) ((44 + (6 * ((upd S ((44 + (6 * (S 1))) + 0).toNatClampNeg area) 1))) + 1).toNatClampNeg load) 1) + 1))) else ((-1), S))) else ((-1), S)))

set_option maxHeartbeats 4000000 in
set_option maxRecDepth 100000 in
/-- X9_comes -/
theorem mX9_comes (l : Launch) (D : va_G) (cI cC cS : ClassId) (sz : Nat) (o : Nat) (q1 : Nat) (q2 : Nat) (q3 : Nat) (q4 : Nat) (q5 : Nat) (S : Nat → Int32) (Bg : Nat → Int32) (Pa : Nat → Int32) (Tx : Nat → Int32) (Nu : Nat → Int32) (st : Int32) (ln : Int32) (ps : Int32) (fm : Bool) (rs : Int32) (area : Int32) (load : Int32) (hs : vp_in (S 1) 6) : Met l yX9_comes wsX9_comes ({ frames := 1, cells := 0, slots := 0, locals := 22 } : Jvm.Room) (va_Pc [.ref o, .int area, .int load] (wPre D (TY cI cC cS) [(o, .inr (7, [.ref q1, .ref q2, .ref q3, .int st, .ref q4, .int ln, .int ps, .int (bi fm), .int rs, .ref q5])), (q1, .inl (cI, 314, .inl S)), (q2, .inl (cI, 314, .inl Bg)), (q3, .inl (cI, 1256, .inl Pa)), (q4, .inl (cI, 80, .inl Tx)), (q5, .inl (cI, 5, .inl Nu))] sz X0)) (qI D (TY cI cC cS) (fun (r : Int32) (u : Int32 × (Nat → Int32)) => fX9_comes S area load = u ∧ r = u.1) (fun u => [(o, .inr (7, [.ref q1, .ref q2, .ref q3, .int st, .ref q4, .int ln, .int ps, .int (bi fm), .int rs, .ref q5])), (q1, .inl (cI, 314, .inl u.2)), (q2, .inl (cI, 314, .inl Bg)), (q3, .inl (cI, 1256, .inl Pa)), (q4, .inl (cI, 80, .inl Tx)), (q5, .inl (cI, 5, .inl Nu))]) (va_A [(o, .inr (7, [.ref q1, .ref q2, .ref q3, .int st, .ref q4, .int ln, .int ps, .int (bi fm), .int rs, .ref q5])), (q1, .inl (cI, 314, .inl S)), (q2, .inl (cI, 314, .inl Bg)), (q3, .inl (cI, 1256, .inl Pa)), (q4, .inl (cI, 80, .inl Tx)), (q5, .inl (cI, 5, .inl Nu))] sz)) 0 0 (va_A [(o, .inr (7, [.ref q1, .ref q2, .ref q3, .int st, .ref q4, .int ln, .int ps, .int (bi fm), .int rs, .ref q5])), (q1, .inl (cI, 314, .inl S)), (q2, .inl (cI, 314, .inl Bg)), (q3, .inl (cI, 1256, .inl Pa)), (q4, .inl (cI, 80, .inl Tx)), (q5, .inl (cI, 5, .inl Nu))] sz) := by
  refine mkM (fun Fr => qI D (TY cI cC cS) (fun (r : Int32) (u : Int32 × (Nat → Int32)) => fX9_comes S area load = u ∧ r = u.1) (fun u => [(o, .inr (7, [.ref q1, .ref q2, .ref q3, .int st, .ref q4, .int ln, .int ps, .int (bi fm), .int rs, .ref q5])), (q1, .inl (cI, 314, .inl u.2)), (q2, .inl (cI, 314, .inl Bg)), (q3, .inl (cI, 1256, .inl Pa)), (q4, .inl (cI, 80, .inl Tx)), (q5, .inl (cI, 5, .inl Nu))]) Fr) (cc := cX9_comes) (maxL := 3) (ret := (some .int)) (own := RX9) (lv := [(0, .ref o), (1, .int area), (2, .int load)]) (by decide) rfl rfl (Nat.le_of_ble_eq_true rfl) rfl ?_
  intro p e s m below meth c Fr ls hx hb hr hts hown hml hlk hin hP hK hD hS hA hAe hsz hX hl
  have w_1 := hts (.fieldLink RX9 7 "FieldQuotasModel" "s" "[I") (List.mem_of_getElem? (i := 1) rfl)
  have w_2 := sub_r (big := wsX9_comes) (u_ws RX9 TX9 10) [6, 7, 8, 9, 10, 11, 12, 13, 14, 15] rfl
  refine lv_iload_n hx hb dX9_comes_0 rfl (lv_at hl 1 rfl) ?_
  refine lv_iconst (v := 0) hx hb dX9_comes_1 (by decide) ?_
  refine lv_iconst (v := 3) hx hb dX9_comes_2 (by decide) ?_
  refine callSi (As := [.int area, .int 0, .int 3]) (rest := []) (mX9_in l D cI cC cS _ area 0 3) ⟨hx, hb, hml, hown, hts⟩ (va_cwS 3 hts gX9_comes_X9_in rfl rfl rfl (by decide +kernel) ⟨Nat.le_of_ble_eq_true rfl, Nat.le_of_ble_eq_true rfl⟩) hP hK hD hS hA hl rfl rfl (Nat.le_of_ble_eq_true rfl) dX9_comes_3 ⟨Nat.zero_le _, Nat.zero_le _⟩ (fun u_ H locs hk2 hP hS => ?_)
  obtain ⟨r_2, e_r_2⟩ : ∃ z, z = u_ := ⟨_, rfl⟩
  subst e_r_2
  refine W.eq (g2 := F0 m 6 ls [.int (bi r_2)]) rfl ?_
  refine lv_if_eq (tgt := 19) hx hb dX9_comes_6 (by decide) (fun c6 => ?_) (fun c6 => ?_)
  · refine lv_iconst (v := (-1)) hx hb dX9_comes_19 (by decide) ?_
    exact endI hx hb hr hlk hP hK hD hS dX9_comes_20 ((-1), S) rfl ⟨(bd1_e hk2).trans ((if_neg (bi_z c6)).trans rfl), rfl⟩
  · refine lv_iload_n hx hb dX9_comes_9 rfl (lv_at hl 2 rfl) ?_
    refine lv_iconst (v := 1) hx hb dX9_comes_10 (by decide) ?_
    refine lv_bipush (v := 9) hx hb dX9_comes_11 (by decide) ?_
    refine callSi (As := [.int load, .int 1, .int 9]) (rest := []) (mX9_in l D cI cC cS _ load 1 9) ⟨hx, hb, hml, hown, hts⟩ (va_cwS 3 hts gX9_comes_X9_in rfl rfl rfl (by decide +kernel) ⟨Nat.le_of_ble_eq_true rfl, Nat.le_of_ble_eq_true rfl⟩) hP hK hD hS hA hl rfl rfl (Nat.le_of_ble_eq_true rfl) dX9_comes_13 ⟨Nat.zero_le _, Nat.zero_le _⟩ (fun u_ H locs hk4 hP hS => ?_)
    obtain ⟨r_4, e_r_4⟩ : ∃ z, z = u_ := ⟨_, rfl⟩
    subst e_r_4
    refine W.eq (g2 := F0 m 16 ls [.int (bi r_4)]) rfl ?_
    refine lv_if_ne (tgt := 21) hx hb dX9_comes_16 (by decide) (fun c16 => ?_) (fun c16 => ?_)
    · refine lv_aload_n hx hb dX9_comes_21 rfl (lv_at hl 0 rfl) ?_
      refine va_get (D := D) (ci := 7) (C := RX9) (T := TX9) (N := 10) hx hb hts w_2 hown hK hP 0 rfl rfl 0 (by decide) w_1 (fun _ h9 => h9) rfl dX9_comes_22 ?_
      refine lv_iconst (v := 1) hx hb dX9_comes_25 (by decide) ?_
      refine va_iald hx hb hK hP 1 0 rfl rfl (vp_d rfl) dX9_comes_26 ?_
      refine W.eq (g2 := F0 m 27 ls [.int (S 1)]) rfl ?_
      refine lv_iconst (v := 5) hx hb dX9_comes_27 (by decide) ?_
      refine lv_icmp_ne (tgt := 34) hx hb dX9_comes_28 (by decide) (fun c28 => ?_) (fun c28 => ?_)
      · refine lv_aload_n hx hb dX9_comes_34 rfl (lv_at hl 0 rfl) ?_
        refine va_get (D := D) (ci := 7) (C := RX9) (T := TX9) (N := 10) hx hb hts w_2 hown hK hP 0 rfl rfl 0 (by decide) w_1 (fun _ h9 => h9) rfl dX9_comes_35 ?_
        refine lv_bipush (v := 44) hx hb dX9_comes_38 (by decide) ?_
        refine lv_bipush (v := 6) hx hb dX9_comes_40 (by decide) ?_
        refine lv_aload_n hx hb dX9_comes_42 rfl (lv_at hl 0 rfl) ?_
        refine va_get (D := D) (ci := 7) (C := RX9) (T := TX9) (N := 10) hx hb hts w_2 hown hK hP 0 rfl rfl 0 (by decide) w_1 (fun _ h9 => h9) rfl dX9_comes_43 ?_
        refine lv_iconst (v := 1) hx hb dX9_comes_46 (by decide) ?_
        refine va_iald hx hb hK hP 1 0 rfl rfl (vp_d rfl) dX9_comes_47 ?_
        refine W.eq (g2 := F0 m 48 ls [.int (S 1), .int 6, .int 44, .ref q1]) rfl ?_
        refine lv_imul hx hb dX9_comes_48 ?_
        refine lv_iadd hx hb dX9_comes_49 ?_
        refine lv_iconst (v := 0) hx hb dX9_comes_50 (by decide) ?_
        refine lv_iadd hx hb dX9_comes_51 ?_
        refine lv_iload_n hx hb dX9_comes_52 rfl (lv_at hl 1 rfl) ?_
        refine va_iast hx hb hK hP hD hS 1 0 rfl rfl (ix_wh (vp_ne hs (by decide) c28) (vp_d rfl)) dX9_comes_53 (fun H locs hP hD hS => ?_)
        have hP : va_P D vwCl [(o, .inr (7, [.ref q1, .ref q2, .ref q3, .int st, .ref q4, .int ln, .int ps, .int (bi fm), .int rs, .ref q5])), (q1, .inl (cI, 314, .inl (upd S ((44 + (6 * (S 1))) + 0).toNatClampNeg area))), (q2, .inl (cI, 314, .inl Bg)), (q3, .inl (cI, 1256, .inl Pa)), (q4, .inl (cI, 80, .inl Tx)), (q5, .inl (cI, 5, .inl Nu))] H := hP
        have hD : va_D Fr [(o, .inr (7, [.ref q1, .ref q2, .ref q3, .int st, .ref q4, .int ln, .int ps, .int (bi fm), .int rs, .ref q5])), (q1, .inl (cI, 314, .inl (upd S ((44 + (6 * (S 1))) + 0).toNatClampNeg area))), (q2, .inl (cI, 314, .inl Bg)), (q3, .inl (cI, 1256, .inl Pa)), (q4, .inl (cI, 80, .inl Tx)), (q5, .inl (cI, 5, .inl Nu))] := hD
        refine lv_aload_n hx hb dX9_comes_54 rfl (lv_at hl 0 rfl) ?_
        refine va_get (D := D) (ci := 7) (C := RX9) (T := TX9) (N := 10) hx hb hts w_2 hown hK hP 0 rfl rfl 0 (by decide) w_1 (fun _ h9 => h9) rfl dX9_comes_55 ?_
        refine lv_bipush (v := 44) hx hb dX9_comes_58 (by decide) ?_
        refine lv_bipush (v := 6) hx hb dX9_comes_60 (by decide) ?_
        refine lv_aload_n hx hb dX9_comes_62 rfl (lv_at hl 0 rfl) ?_
        refine va_get (D := D) (ci := 7) (C := RX9) (T := TX9) (N := 10) hx hb hts w_2 hown hK hP 0 rfl rfl 0 (by decide) w_1 (fun _ h9 => h9) rfl dX9_comes_63 ?_
        refine lv_iconst (v := 1) hx hb dX9_comes_66 (by decide) ?_
        refine va_iald hx hb hK hP 1 0 rfl rfl (vp_d rfl) dX9_comes_67 ?_
        refine W.eq (g2 := F0 m 68 ls [.int ((upd S ((44 + (6 * (S 1))) + 0).toNatClampNeg area) 1), .int 6, .int 44, .ref q1]) rfl ?_
        refine lv_imul hx hb dX9_comes_68 ?_
        refine lv_iadd hx hb dX9_comes_69 ?_
        refine lv_iconst (v := 1) hx hb dX9_comes_70 (by decide) ?_
        refine lv_iadd hx hb dX9_comes_71 ?_
        refine lv_iload_n hx hb dX9_comes_72 rfl (lv_at hl 2 rfl) ?_
        refine va_iast hx hb hK hP hD hS 1 0 rfl rfl (ix_wh (by rw [un_wh (vp_ne hs (by decide) c28) (vp_d rfl) (Or.inl (by decide))]; exact vp_ne hs (by decide) c28) (vp_d rfl)) dX9_comes_73 (fun H locs hP hD hS => ?_)
        have hP : va_P D vwCl [(o, .inr (7, [.ref q1, .ref q2, .ref q3, .int st, .ref q4, .int ln, .int ps, .int (bi fm), .int rs, .ref q5])), (q1, .inl (cI, 314, .inl (upd (upd S ((44 + (6 * (S 1))) + 0).toNatClampNeg area) ((44 + (6 * ((upd S ((44 + (6 * (S 1))) + 0).toNatClampNeg area) 1))) + 1).toNatClampNeg load))), (q2, .inl (cI, 314, .inl Bg)), (q3, .inl (cI, 1256, .inl Pa)), (q4, .inl (cI, 80, .inl Tx)), (q5, .inl (cI, 5, .inl Nu))] H := hP
        have hD : va_D Fr [(o, .inr (7, [.ref q1, .ref q2, .ref q3, .int st, .ref q4, .int ln, .int ps, .int (bi fm), .int rs, .ref q5])), (q1, .inl (cI, 314, .inl (upd (upd S ((44 + (6 * (S 1))) + 0).toNatClampNeg area) ((44 + (6 * ((upd S ((44 + (6 * (S 1))) + 0).toNatClampNeg area) 1))) + 1).toNatClampNeg load))), (q2, .inl (cI, 314, .inl Bg)), (q3, .inl (cI, 1256, .inl Pa)), (q4, .inl (cI, 80, .inl Tx)), (q5, .inl (cI, 5, .inl Nu))] := hD
        refine lv_aload_n hx hb dX9_comes_74 rfl (lv_at hl 0 rfl) ?_
        refine va_get (D := D) (ci := 7) (C := RX9) (T := TX9) (N := 10) hx hb hts w_2 hown hK hP 0 rfl rfl 0 (by decide) w_1 (fun _ h9 => h9) rfl dX9_comes_75 ?_
        refine lv_iconst (v := 1) hx hb dX9_comes_78 (by decide) ?_
        refine lv_dup2_11 hx hb dX9_comes_79 rfl rfl ?_
        refine va_iald hx hb hK hP 1 0 rfl rfl (vp_d rfl) dX9_comes_80 ?_
        refine W.eq (g2 := F0 m 81 ls [.int ((upd (upd S ((44 + (6 * (S 1))) + 0).toNatClampNeg area) ((44 + (6 * ((upd S ((44 + (6 * (S 1))) + 0).toNatClampNeg area) 1))) + 1).toNatClampNeg load) 1), .int 1, .ref q1]) rfl ?_
        refine lv_iconst (v := 1) hx hb dX9_comes_81 (by decide) ?_
        refine lv_iadd hx hb dX9_comes_82 ?_
        refine va_iast hx hb hK hP hD hS 1 0 rfl rfl (vp_d rfl) dX9_comes_83 (fun H locs hP hD hS => ?_)
        have hP : va_P D vwCl [(o, .inr (7, [.ref q1, .ref q2, .ref q3, .int st, .ref q4, .int ln, .int ps, .int (bi fm), .int rs, .ref q5])), (q1, .inl (cI, 314, .inl (upd (upd (upd S ((44 + (6 * (S 1))) + 0).toNatClampNeg area) ((44 + (6 * ((upd S ((44 + (6 * (S 1))) + 0).toNatClampNeg area) 1))) + 1).toNatClampNeg load) 1 (((upd (upd S ((44 + (6 * (S 1))) + 0).toNatClampNeg area) ((44 + (6 * ((upd S ((44 + (6 * (S 1))) + 0).toNatClampNeg area) 1))) + 1).toNatClampNeg load) 1) + 1)))), (q2, .inl (cI, 314, .inl Bg)), (q3, .inl (cI, 1256, .inl Pa)), (q4, .inl (cI, 80, .inl Tx)), (q5, .inl (cI, 5, .inl Nu))] H := hP
        have hD : va_D Fr [(o, .inr (7, [.ref q1, .ref q2, .ref q3, .int st, .ref q4, .int ln, .int ps, .int (bi fm), .int rs, .ref q5])), (q1, .inl (cI, 314, .inl (upd (upd (upd S ((44 + (6 * (S 1))) + 0).toNatClampNeg area) ((44 + (6 * ((upd S ((44 + (6 * (S 1))) + 0).toNatClampNeg area) 1))) + 1).toNatClampNeg load) 1 (((upd (upd S ((44 + (6 * (S 1))) + 0).toNatClampNeg area) ((44 + (6 * ((upd S ((44 + (6 * (S 1))) + 0).toNatClampNeg area) 1))) + 1).toNatClampNeg load) 1) + 1)))), (q2, .inl (cI, 314, .inl Bg)), (q3, .inl (cI, 1256, .inl Pa)), (q4, .inl (cI, 80, .inl Tx)), (q5, .inl (cI, 5, .inl Nu))] := hD
        refine lv_aload_n hx hb dX9_comes_84 rfl (lv_at hl 0 rfl) ?_
        refine va_get (D := D) (ci := 7) (C := RX9) (T := TX9) (N := 10) hx hb hts w_2 hown hK hP 0 rfl rfl 0 (by decide) w_1 (fun _ h9 => h9) rfl dX9_comes_85 ?_
        refine lv_iconst (v := 1) hx hb dX9_comes_88 (by decide) ?_
        refine va_iald hx hb hK hP 1 0 rfl rfl (vp_d rfl) dX9_comes_89 ?_
        refine W.eq (g2 := F0 m 90 ls [.int ((upd (upd (upd S ((44 + (6 * (S 1))) + 0).toNatClampNeg area) ((44 + (6 * ((upd S ((44 + (6 * (S 1))) + 0).toNatClampNeg area) 1))) + 1).toNatClampNeg load) 1 (((upd (upd S ((44 + (6 * (S 1))) + 0).toNatClampNeg area) ((44 + (6 * ((upd S ((44 + (6 * (S 1))) + 0).toNatClampNeg area) 1))) + 1).toNatClampNeg load) 1) + 1)) 1)]) rfl ?_
        refine lv_iconst (v := 1) hx hb dX9_comes_90 (by decide) ?_
        refine lv_isub hx hb dX9_comes_91 ?_
        exact endI hx hb hr hlk hP hK hD hS dX9_comes_92 (((upd (upd (upd S ((44 + (6 * (S 1))) + 0).toNatClampNeg area) ((44 + (6 * ((upd S ((44 + (6 * (S 1))) + 0).toNatClampNeg area) 1))) + 1).toNatClampNeg load) 1 (((upd (upd S ((44 + (6 * (S 1))) + 0).toNatClampNeg area) ((44 + (6 * ((upd S ((44 + (6 * (S 1))) + 0).toNatClampNeg area) 1))) + 1).toNatClampNeg load) 1) + 1)) 1) - 1, upd (upd (upd S ((44 + (6 * (S 1))) + 0).toNatClampNeg area) ((44 + (6 * ((upd S ((44 + (6 * (S 1))) + 0).toNatClampNeg area) 1))) + 1).toNatClampNeg load) 1 (((upd (upd S ((44 + (6 * (S 1))) + 0).toNatClampNeg area) ((44 + (6 * ((upd S ((44 + (6 * (S 1))) + 0).toNatClampNeg area) 1))) + 1).toNatClampNeg load) 1) + 1)) rfl ⟨(bd1_e hk2).trans ((if_pos (bi_o c6)).trans ((bd1_e hk4).trans ((if_pos (bi_o c16)).trans ((if_neg c28).trans rfl)))), rfl⟩
      · refine lv_bipush (v := (-3)) hx hb dX9_comes_31 (by decide) ?_
        exact endI hx hb hr hlk hP hK hD hS dX9_comes_33 ((-3), S) rfl ⟨(bd1_e hk2).trans ((if_pos (bi_o c6)).trans ((bd1_e hk4).trans ((if_pos (bi_o c16)).trans ((if_pos c28).trans rfl)))), rfl⟩
    · refine lv_iconst (v := (-1)) hx hb dX9_comes_19 (by decide) ?_
      exact endI hx hb hr hlk hP hK hD hS dX9_comes_20 ((-1), S) rfl ⟨(bd1_e hk2).trans ((if_pos (bi_o c6)).trans ((bd1_e hk4).trans ((if_neg (bi_z c16)).trans rfl))), rfl⟩


/-- the value of X9_limits, path by path -/
def fX9_limits (S : Nat → Int32) (area : Int32) (group : Int32) (many : Int32) : Int32 × (Nat → Int32) :=
  bd1 (fX9_isCell area group) (fun (r_2 : Bool) => (if r_2 = true then bd1 (fX9_in many 0 20) (fun (r_4 : Bool) => (if r_4 = true then bd2 (fX9_puts S area group 0 many) (fun (r_6 : Int32) (u_7 : Nat → Int32) => (r_6, u_7)) else ((-1), S))) else ((-1), S)))

set_option maxHeartbeats 4000000 in
set_option maxRecDepth 100000 in
/-- X9_limits -/
theorem mX9_limits (l : Launch) (D : va_G) (cI cC cS : ClassId) (sz : Nat) (o : Nat) (q1 : Nat) (q2 : Nat) (q3 : Nat) (q4 : Nat) (q5 : Nat) (S : Nat → Int32) (Bg : Nat → Int32) (Pa : Nat → Int32) (Tx : Nat → Int32) (Nu : Nat → Int32) (st : Int32) (ln : Int32) (ps : Int32) (fm : Bool) (rs : Int32) (area : Int32) (group : Int32) (many : Int32)  : Met l yX9_limits wsX9_limits ({ frames := 2, cells := 0, slots := 0, locals := 43 } : Jvm.Room) (va_Pc [.ref o, .int area, .int group, .int many] (wPre D (TY cI cC cS) [(o, .inr (7, [.ref q1, .ref q2, .ref q3, .int st, .ref q4, .int ln, .int ps, .int (bi fm), .int rs, .ref q5])), (q1, .inl (cI, 314, .inl S)), (q2, .inl (cI, 314, .inl Bg)), (q3, .inl (cI, 1256, .inl Pa)), (q4, .inl (cI, 80, .inl Tx)), (q5, .inl (cI, 5, .inl Nu))] sz X0)) (qI D (TY cI cC cS) (fun (r : Int32) (u : Int32 × (Nat → Int32)) => fX9_limits S area group many = u ∧ r = u.1) (fun u => [(o, .inr (7, [.ref q1, .ref q2, .ref q3, .int st, .ref q4, .int ln, .int ps, .int (bi fm), .int rs, .ref q5])), (q1, .inl (cI, 314, .inl u.2)), (q2, .inl (cI, 314, .inl Bg)), (q3, .inl (cI, 1256, .inl Pa)), (q4, .inl (cI, 80, .inl Tx)), (q5, .inl (cI, 5, .inl Nu))]) (va_A [(o, .inr (7, [.ref q1, .ref q2, .ref q3, .int st, .ref q4, .int ln, .int ps, .int (bi fm), .int rs, .ref q5])), (q1, .inl (cI, 314, .inl S)), (q2, .inl (cI, 314, .inl Bg)), (q3, .inl (cI, 1256, .inl Pa)), (q4, .inl (cI, 80, .inl Tx)), (q5, .inl (cI, 5, .inl Nu))] sz)) 0 0 (va_A [(o, .inr (7, [.ref q1, .ref q2, .ref q3, .int st, .ref q4, .int ln, .int ps, .int (bi fm), .int rs, .ref q5])), (q1, .inl (cI, 314, .inl S)), (q2, .inl (cI, 314, .inl Bg)), (q3, .inl (cI, 1256, .inl Pa)), (q4, .inl (cI, 80, .inl Tx)), (q5, .inl (cI, 5, .inl Nu))] sz) := by
  refine mkM (fun Fr => qI D (TY cI cC cS) (fun (r : Int32) (u : Int32 × (Nat → Int32)) => fX9_limits S area group many = u ∧ r = u.1) (fun u => [(o, .inr (7, [.ref q1, .ref q2, .ref q3, .int st, .ref q4, .int ln, .int ps, .int (bi fm), .int rs, .ref q5])), (q1, .inl (cI, 314, .inl u.2)), (q2, .inl (cI, 314, .inl Bg)), (q3, .inl (cI, 1256, .inl Pa)), (q4, .inl (cI, 80, .inl Tx)), (q5, .inl (cI, 5, .inl Nu))]) Fr) (cc := cX9_limits) (maxL := 4) (ret := (some .int)) (own := RX9) (lv := [(0, .ref o), (1, .int area), (2, .int group), (3, .int many)]) (by decide) rfl rfl (Nat.le_of_ble_eq_true rfl) rfl ?_
  intro p e s m below meth c Fr ls hx hb hr hts hown hml hlk hin hP hK hD hS hA hAe hsz hX hl
  refine lv_iload_n hx hb dX9_limits_0 rfl (lv_at hl 1 rfl) ?_
  refine lv_iload_n hx hb dX9_limits_1 rfl (lv_at hl 2 rfl) ?_
  refine callSi (As := [.int area, .int group]) (rest := []) (mX9_isCell l D cI cC cS _ area group) ⟨hx, hb, hml, hown, hts⟩ (va_cwS 2 hts gX9_limits_X9_isCell rfl rfl rfl (by decide +kernel) ⟨Nat.le_of_ble_eq_true rfl, Nat.le_of_ble_eq_true rfl⟩) hP hK hD hS hA hl rfl rfl (Nat.le_of_ble_eq_true rfl) dX9_limits_2 ⟨Nat.zero_le _, Nat.zero_le _⟩ (fun u_ H locs hk2 hP hS => ?_)
  obtain ⟨r_2, e_r_2⟩ : ∃ z, z = u_ := ⟨_, rfl⟩
  subst e_r_2
  refine W.eq (g2 := F0 m 5 ls [.int (bi r_2)]) rfl ?_
  refine lv_if_eq (tgt := 29) hx hb dX9_limits_5 (by decide) (fun c5 => ?_) (fun c5 => ?_)
  · refine lv_iconst (v := (-1)) hx hb dX9_limits_29 (by decide) ?_
    exact endI hx hb hr hlk hP hK hD hS dX9_limits_30 ((-1), S) rfl ⟨(bd1_e hk2).trans ((if_neg (bi_z c5)).trans rfl), rfl⟩
  · refine lv_iload_n hx hb dX9_limits_8 rfl (lv_at hl 3 rfl) ?_
    refine lv_iconst (v := 0) hx hb dX9_limits_9 (by decide) ?_
    refine lv_bipush (v := 20) hx hb dX9_limits_10 (by decide) ?_
    refine callSi (As := [.int many, .int 0, .int 20]) (rest := []) (mX9_in l D cI cC cS _ many 0 20) ⟨hx, hb, hml, hown, hts⟩ (va_cwS 3 hts gX9_limits_X9_in rfl rfl rfl (by decide +kernel) ⟨Nat.le_of_ble_eq_true rfl, Nat.le_of_ble_eq_true rfl⟩) hP hK hD hS hA hl rfl rfl (Nat.le_of_ble_eq_true rfl) dX9_limits_12 ⟨Nat.zero_le _, Nat.zero_le _⟩ (fun u_ H locs hk4 hP hS => ?_)
    obtain ⟨r_4, e_r_4⟩ : ∃ z, z = u_ := ⟨_, rfl⟩
    subst e_r_4
    refine W.eq (g2 := F0 m 15 ls [.int (bi r_4)]) rfl ?_
    refine lv_if_eq (tgt := 29) hx hb dX9_limits_15 (by decide) (fun c15 => ?_) (fun c15 => ?_)
    · refine lv_iconst (v := (-1)) hx hb dX9_limits_29 (by decide) ?_
      exact endI hx hb hr hlk hP hK hD hS dX9_limits_30 ((-1), S) rfl ⟨(bd1_e hk2).trans ((if_pos (bi_o c5)).trans ((bd1_e hk4).trans ((if_neg (bi_z c15)).trans rfl))), rfl⟩
    · refine lv_aload_n hx hb dX9_limits_18 rfl (lv_at hl 0 rfl) ?_
      refine lv_iload_n hx hb dX9_limits_19 rfl (lv_at hl 1 rfl) ?_
      refine lv_iload_n hx hb dX9_limits_20 rfl (lv_at hl 2 rfl) ?_
      refine lv_iconst (v := 0) hx hb dX9_limits_21 (by decide) ?_
      refine lv_iload_n hx hb dX9_limits_22 rfl (lv_at hl 3 rfl) ?_
      refine callVi (As := [.int area, .int group, .int 0, .int many]) (rest := []) (mX9_puts l D cI cC cS _ o q1 q2 q3 q4 q5 S Bg Pa Tx Nu st ln ps fm rs area group 0 many ((isCell_of (hk2.trans (bi_o c5))).1) ((isCell_of (hk2.trans (bi_o c5))).2) (vp_d rfl)) ⟨hx, hb, hml, hown, hts⟩ (cwV 4 hts gX9_limits_X9_puts rfl rfl rfl (by decide +kernel) ⟨Nat.le_of_ble_eq_true rfl, Nat.le_of_ble_eq_true rfl⟩) X0_blind (fun _ _ _ => trivial) hP hK hD hS hA hl [0, 1, 2, 3, 4, 5] rfl rfl 0 7 rfl rfl rfl rfl rfl (Nat.le_of_ble_eq_true rfl) dX9_limits_23 ⟨Nat.zero_le _, Nat.zero_le _⟩ (fun _ => rfl) (fun u_ H locs hk7 hP hD hS => ?_)
      obtain ⟨r_6, u_7⟩ := u_
      have hP : va_P D vwCl [(o, .inr (7, [.ref q1, .ref q2, .ref q3, .int st, .ref q4, .int ln, .int ps, .int (bi fm), .int rs, .ref q5])), (q1, .inl (cI, 314, .inl u_7)), (q2, .inl (cI, 314, .inl Bg)), (q3, .inl (cI, 1256, .inl Pa)), (q4, .inl (cI, 80, .inl Tx)), (q5, .inl (cI, 5, .inl Nu))] H := hP
      have hD : va_D Fr [(o, .inr (7, [.ref q1, .ref q2, .ref q3, .int st, .ref q4, .int ln, .int ps, .int (bi fm), .int rs, .ref q5])), (q1, .inl (cI, 314, .inl u_7)), (q2, .inl (cI, 314, .inl Bg)), (q3, .inl (cI, 1256, .inl Pa)), (q4, .inl (cI, 80, .inl Tx)), (q5, .inl (cI, 5, .inl Nu))] := hD
      refine W.eq (g2 := F0 m 26 ls [.int r_6]) rfl ?_
      refine lv_goto (tgt := 30) hx hb dX9_limits_26 (by decide) ?_
      exact endI hx hb hr hlk hP hK hD hS dX9_limits_30 (r_6, u_7) rfl ⟨(bd1_e hk2).trans ((if_pos (bi_o c5)).trans ((bd1_e hk4).trans ((if_pos (bi_o c15)).trans ((bd2_e hk7).trans rfl)))), rfl⟩


/-- the value of X9_isOf, path by path -/
def fX9_isOf (S : Nat → Int32) (address : Int32) (what : Int32) : Bool :=
  (if what = 0 then bd1 (fX9_isOpen S address) (fun (r_2 : Bool) => r_2) else if what = 1 then bd1 (fX9_of S address 1) (fun (r_4 : Int32) => (if r_4 = what then true else false)) else if what = 2 then bd1 (fX9_of S address 1) (fun (r_6 : Int32) => (if r_6 = what then true else false)) else if what = 3 then bd1 (fX9_of S address 1) (fun (r_8 : Int32) => (if r_8 = what then true else false)) else if what = 4 then bd1 (fX9_of S address 1) (fun (r_10 : Int32) => (if r_10 = what then true else false)) else if what = 5 then bd1 (fX9_isFixed S address) (fun (r_12 : Bool) => r_12) else if what = 6 then bd1 (fX9_isOver S address) (fun (r_14 : Bool) => r_14) else if what = 7 then bd1 (fX9_isOpen S address) (fun (r_16 : Bool) => (if r_16 = true then bd1 (fX9_of S address 2) (fun (r_18 : Int32) => (if r_18 = 0 then true else false)) else false)) else bd1 (fX9_of S address 1) (fun (r_20 : Int32) => (if r_20 = what then true else false)))

set_option maxHeartbeats 4000000 in
set_option maxRecDepth 100000 in
/-- X9_isOf -/
theorem mX9_isOf (l : Launch) (D : va_G) (cI cC cS : ClassId) (sz : Nat) (o : Nat) (q1 : Nat) (q2 : Nat) (q3 : Nat) (q4 : Nat) (q5 : Nat) (S : Nat → Int32) (Bg : Nat → Int32) (Pa : Nat → Int32) (Tx : Nat → Int32) (Nu : Nat → Int32) (st : Int32) (ln : Int32) (ps : Int32) (fm : Bool) (rs : Int32) (address : Int32) (what : Int32) (hfa : vp_in address 24) : Met l yX9_isOf wsX9_isOf ({ frames := 4, cells := 0, slots := 0, locals := 85 } : Jvm.Room) (va_Pc [.ref o, .int address, .int what] (wPre D (TY cI cC cS) [(o, .inr (7, [.ref q1, .ref q2, .ref q3, .int st, .ref q4, .int ln, .int ps, .int (bi fm), .int rs, .ref q5])), (q1, .inl (cI, 314, .inl S)), (q2, .inl (cI, 314, .inl Bg)), (q3, .inl (cI, 1256, .inl Pa)), (q4, .inl (cI, 80, .inl Tx)), (q5, .inl (cI, 5, .inl Nu))] sz X0)) (qI D (TY cI cC cS) (fun (r : Int32) (u : Bool) => fX9_isOf S address what = u ∧ r = bi u) (fun u => [(o, .inr (7, [.ref q1, .ref q2, .ref q3, .int st, .ref q4, .int ln, .int ps, .int (bi fm), .int rs, .ref q5])), (q1, .inl (cI, 314, .inl S)), (q2, .inl (cI, 314, .inl Bg)), (q3, .inl (cI, 1256, .inl Pa)), (q4, .inl (cI, 80, .inl Tx)), (q5, .inl (cI, 5, .inl Nu))]) (va_A [(o, .inr (7, [.ref q1, .ref q2, .ref q3, .int st, .ref q4, .int ln, .int ps, .int (bi fm), .int rs, .ref q5])), (q1, .inl (cI, 314, .inl S)), (q2, .inl (cI, 314, .inl Bg)), (q3, .inl (cI, 1256, .inl Pa)), (q4, .inl (cI, 80, .inl Tx)), (q5, .inl (cI, 5, .inl Nu))] sz)) 0 0 (va_A [(o, .inr (7, [.ref q1, .ref q2, .ref q3, .int st, .ref q4, .int ln, .int ps, .int (bi fm), .int rs, .ref q5])), (q1, .inl (cI, 314, .inl S)), (q2, .inl (cI, 314, .inl Bg)), (q3, .inl (cI, 1256, .inl Pa)), (q4, .inl (cI, 80, .inl Tx)), (q5, .inl (cI, 5, .inl Nu))] sz) := by
  refine mkM (fun Fr => qI D (TY cI cC cS) (fun (r : Int32) (u : Bool) => fX9_isOf S address what = u ∧ r = bi u) (fun u => [(o, .inr (7, [.ref q1, .ref q2, .ref q3, .int st, .ref q4, .int ln, .int ps, .int (bi fm), .int rs, .ref q5])), (q1, .inl (cI, 314, .inl S)), (q2, .inl (cI, 314, .inl Bg)), (q3, .inl (cI, 1256, .inl Pa)), (q4, .inl (cI, 80, .inl Tx)), (q5, .inl (cI, 5, .inl Nu))]) Fr) (cc := cX9_isOf) (maxL := 3) (ret := (some .boolean)) (own := RX9) (lv := [(0, .ref o), (1, .int address), (2, .int what)]) (by decide) rfl rfl (Nat.le_of_ble_eq_true rfl) rfl ?_
  intro p e s m below meth c Fr ls hx hb hr hts hown hml hlk hin hP hK hD hS hA hAe hsz hX hl
  refine lv_iload_n hx hb dX9_isOf_0 rfl (lv_at hl 2 rfl) ?_
  by_cases c1_0 : what = 0
  · refine lv_tableIn (tgt := 48) hx hb dX9_isOf_1 (by rw [c1_0]; decide) (by rw [c1_0]; decide) (by rw [c1_0]; rfl) (by decide) ?_
    refine lv_aload_n hx hb dX9_isOf_48 rfl (lv_at hl 0 rfl) ?_
    refine lv_iload_n hx hb dX9_isOf_49 rfl (lv_at hl 1 rfl) ?_
    refine callVi (As := [.int address]) (rest := []) (mX9_isOpen l D cI cC cS _ o q1 q2 q3 q4 q5 S Bg Pa Tx Nu st ln ps fm rs address hfa) ⟨hx, hb, hml, hown, hts⟩ (cwV 1 hts gX9_isOf_X9_isOpen rfl rfl rfl (by decide +kernel) ⟨Nat.le_of_ble_eq_true rfl, Nat.le_of_ble_eq_true rfl⟩) X0_blind (fun _ _ _ => trivial) hP hK hD hS hA hl [0, 1, 2, 3, 4, 5] rfl rfl 0 7 rfl rfl rfl rfl rfl (Nat.le_of_ble_eq_true rfl) dX9_isOf_50 ⟨Nat.zero_le _, Nat.zero_le _⟩ (fun _ => rfl) (fun u_ H locs hk2 hP hD hS => ?_)
    obtain ⟨r_2, e_r_2⟩ : ∃ z, z = u_ := ⟨_, rfl⟩
    subst e_r_2
    have hP : va_P D vwCl [(o, .inr (7, [.ref q1, .ref q2, .ref q3, .int st, .ref q4, .int ln, .int ps, .int (bi fm), .int rs, .ref q5])), (q1, .inl (cI, 314, .inl S)), (q2, .inl (cI, 314, .inl Bg)), (q3, .inl (cI, 1256, .inl Pa)), (q4, .inl (cI, 80, .inl Tx)), (q5, .inl (cI, 5, .inl Nu))] H := hP
    have hD : va_D Fr [(o, .inr (7, [.ref q1, .ref q2, .ref q3, .int st, .ref q4, .int ln, .int ps, .int (bi fm), .int rs, .ref q5])), (q1, .inl (cI, 314, .inl S)), (q2, .inl (cI, 314, .inl Bg)), (q3, .inl (cI, 1256, .inl Pa)), (q4, .inl (cI, 80, .inl Tx)), (q5, .inl (cI, 5, .inl Nu))] := hD
    refine W.eq (g2 := F0 m 53 ls [.int (bi r_2)]) rfl ?_
    exact endZ hx hb hr hlk hP hK hD hS dX9_isOf_53 (bi_nar _) r_2 rfl ⟨(if_pos c1_0).trans ((bd1_e hk2).trans rfl), rfl⟩
  by_cases c1_1 : what = 1
  · refine lv_tableIn (tgt := 89) hx hb dX9_isOf_1 (by rw [c1_1]; decide) (by rw [c1_1]; decide) (by rw [c1_1]; rfl) (by decide) ?_
    refine lv_aload_n hx hb dX9_isOf_89 rfl (lv_at hl 0 rfl) ?_
    refine lv_iload_n hx hb dX9_isOf_90 rfl (lv_at hl 1 rfl) ?_
    refine lv_iconst (v := 1) hx hb dX9_isOf_91 (by decide) ?_
    refine callVi (As := [.int address, .int 1]) (rest := []) (mX9_of l D cI cC cS _ o q1 q2 q3 q4 q5 S Bg Pa Tx Nu st ln ps fm rs address 1 hfa (vp_d rfl)) ⟨hx, hb, hml, hown, hts⟩ (cwV 2 hts gX9_isOf_X9_of rfl rfl rfl (by decide +kernel) ⟨Nat.le_of_ble_eq_true rfl, Nat.le_of_ble_eq_true rfl⟩) X0_blind (fun _ _ _ => trivial) hP hK hD hS hA hl [0, 1, 2, 3, 4, 5] rfl rfl 0 7 rfl rfl rfl rfl rfl (Nat.le_of_ble_eq_true rfl) dX9_isOf_92 ⟨Nat.zero_le _, Nat.zero_le _⟩ (fun _ => rfl) (fun u_ H locs hk4 hP hD hS => ?_)
    obtain ⟨r_4, e_r_4⟩ : ∃ z, z = u_ := ⟨_, rfl⟩
    subst e_r_4
    have hP : va_P D vwCl [(o, .inr (7, [.ref q1, .ref q2, .ref q3, .int st, .ref q4, .int ln, .int ps, .int (bi fm), .int rs, .ref q5])), (q1, .inl (cI, 314, .inl S)), (q2, .inl (cI, 314, .inl Bg)), (q3, .inl (cI, 1256, .inl Pa)), (q4, .inl (cI, 80, .inl Tx)), (q5, .inl (cI, 5, .inl Nu))] H := hP
    have hD : va_D Fr [(o, .inr (7, [.ref q1, .ref q2, .ref q3, .int st, .ref q4, .int ln, .int ps, .int (bi fm), .int rs, .ref q5])), (q1, .inl (cI, 314, .inl S)), (q2, .inl (cI, 314, .inl Bg)), (q3, .inl (cI, 1256, .inl Pa)), (q4, .inl (cI, 80, .inl Tx)), (q5, .inl (cI, 5, .inl Nu))] := hD
    refine W.eq (g2 := F0 m 95 ls [.int r_4]) rfl ?_
    refine lv_iload_n hx hb dX9_isOf_95 rfl (lv_at hl 2 rfl) ?_
    refine lv_icmp_ne (tgt := 103) hx hb dX9_isOf_96 (by decide) (fun c96 => ?_) (fun c96 => ?_)
    · refine lv_iconst (v := 0) hx hb dX9_isOf_103 (by decide) ?_
      exact endZ hx hb hr hlk hP hK hD hS dX9_isOf_104 rfl false rfl ⟨(if_neg c1_0).trans ((if_pos c1_1).trans ((bd1_e hk4).trans ((if_neg c96).trans rfl))), rfl⟩
    · refine lv_iconst (v := 1) hx hb dX9_isOf_99 (by decide) ?_
      refine lv_goto (tgt := 104) hx hb dX9_isOf_100 (by decide) ?_
      exact endZ hx hb hr hlk hP hK hD hS dX9_isOf_104 rfl true rfl ⟨(if_neg c1_0).trans ((if_pos c1_1).trans ((bd1_e hk4).trans ((if_pos c96).trans rfl))), rfl⟩
  by_cases c1_2 : what = 2
  · refine lv_tableIn (tgt := 89) hx hb dX9_isOf_1 (by rw [c1_2]; decide) (by rw [c1_2]; decide) (by rw [c1_2]; rfl) (by decide) ?_
    refine lv_aload_n hx hb dX9_isOf_89 rfl (lv_at hl 0 rfl) ?_
    refine lv_iload_n hx hb dX9_isOf_90 rfl (lv_at hl 1 rfl) ?_
    refine lv_iconst (v := 1) hx hb dX9_isOf_91 (by decide) ?_
    refine callVi (As := [.int address, .int 1]) (rest := []) (mX9_of l D cI cC cS _ o q1 q2 q3 q4 q5 S Bg Pa Tx Nu st ln ps fm rs address 1 hfa (vp_d rfl)) ⟨hx, hb, hml, hown, hts⟩ (cwV 2 hts gX9_isOf_X9_of rfl rfl rfl (by decide +kernel) ⟨Nat.le_of_ble_eq_true rfl, Nat.le_of_ble_eq_true rfl⟩) X0_blind (fun _ _ _ => trivial) hP hK hD hS hA hl [0, 1, 2, 3, 4, 5] rfl rfl 0 7 rfl rfl rfl rfl rfl (Nat.le_of_ble_eq_true rfl) dX9_isOf_92 ⟨Nat.zero_le _, Nat.zero_le _⟩ (fun _ => rfl) (fun u_ H locs hk6 hP hD hS => ?_)
    obtain ⟨r_6, e_r_6⟩ : ∃ z, z = u_ := ⟨_, rfl⟩
    subst e_r_6
    have hP : va_P D vwCl [(o, .inr (7, [.ref q1, .ref q2, .ref q3, .int st, .ref q4, .int ln, .int ps, .int (bi fm), .int rs, .ref q5])), (q1, .inl (cI, 314, .inl S)), (q2, .inl (cI, 314, .inl Bg)), (q3, .inl (cI, 1256, .inl Pa)), (q4, .inl (cI, 80, .inl Tx)), (q5, .inl (cI, 5, .inl Nu))] H := hP
    have hD : va_D Fr [(o, .inr (7, [.ref q1, .ref q2, .ref q3, .int st, .ref q4, .int ln, .int ps, .int (bi fm), .int rs, .ref q5])), (q1, .inl (cI, 314, .inl S)), (q2, .inl (cI, 314, .inl Bg)), (q3, .inl (cI, 1256, .inl Pa)), (q4, .inl (cI, 80, .inl Tx)), (q5, .inl (cI, 5, .inl Nu))] := hD
    refine W.eq (g2 := F0 m 95 ls [.int r_6]) rfl ?_
    refine lv_iload_n hx hb dX9_isOf_95 rfl (lv_at hl 2 rfl) ?_
    refine lv_icmp_ne (tgt := 103) hx hb dX9_isOf_96 (by decide) (fun c96 => ?_) (fun c96 => ?_)
    · refine lv_iconst (v := 0) hx hb dX9_isOf_103 (by decide) ?_
      exact endZ hx hb hr hlk hP hK hD hS dX9_isOf_104 rfl false rfl ⟨(if_neg c1_0).trans ((if_neg c1_1).trans ((if_pos c1_2).trans ((bd1_e hk6).trans ((if_neg c96).trans rfl)))), rfl⟩
    · refine lv_iconst (v := 1) hx hb dX9_isOf_99 (by decide) ?_
      refine lv_goto (tgt := 104) hx hb dX9_isOf_100 (by decide) ?_
      exact endZ hx hb hr hlk hP hK hD hS dX9_isOf_104 rfl true rfl ⟨(if_neg c1_0).trans ((if_neg c1_1).trans ((if_pos c1_2).trans ((bd1_e hk6).trans ((if_pos c96).trans rfl)))), rfl⟩
  by_cases c1_3 : what = 3
  · refine lv_tableIn (tgt := 89) hx hb dX9_isOf_1 (by rw [c1_3]; decide) (by rw [c1_3]; decide) (by rw [c1_3]; rfl) (by decide) ?_
    refine lv_aload_n hx hb dX9_isOf_89 rfl (lv_at hl 0 rfl) ?_
    refine lv_iload_n hx hb dX9_isOf_90 rfl (lv_at hl 1 rfl) ?_
    refine lv_iconst (v := 1) hx hb dX9_isOf_91 (by decide) ?_
    refine callVi (As := [.int address, .int 1]) (rest := []) (mX9_of l D cI cC cS _ o q1 q2 q3 q4 q5 S Bg Pa Tx Nu st ln ps fm rs address 1 hfa (vp_d rfl)) ⟨hx, hb, hml, hown, hts⟩ (cwV 2 hts gX9_isOf_X9_of rfl rfl rfl (by decide +kernel) ⟨Nat.le_of_ble_eq_true rfl, Nat.le_of_ble_eq_true rfl⟩) X0_blind (fun _ _ _ => trivial) hP hK hD hS hA hl [0, 1, 2, 3, 4, 5] rfl rfl 0 7 rfl rfl rfl rfl rfl (Nat.le_of_ble_eq_true rfl) dX9_isOf_92 ⟨Nat.zero_le _, Nat.zero_le _⟩ (fun _ => rfl) (fun u_ H locs hk8 hP hD hS => ?_)
    obtain ⟨r_8, e_r_8⟩ : ∃ z, z = u_ := ⟨_, rfl⟩
    subst e_r_8
    have hP : va_P D vwCl [(o, .inr (7, [.ref q1, .ref q2, .ref q3, .int st, .ref q4, .int ln, .int ps, .int (bi fm), .int rs, .ref q5])), (q1, .inl (cI, 314, .inl S)), (q2, .inl (cI, 314, .inl Bg)), (q3, .inl (cI, 1256, .inl Pa)), (q4, .inl (cI, 80, .inl Tx)), (q5, .inl (cI, 5, .inl Nu))] H := hP
    have hD : va_D Fr [(o, .inr (7, [.ref q1, .ref q2, .ref q3, .int st, .ref q4, .int ln, .int ps, .int (bi fm), .int rs, .ref q5])), (q1, .inl (cI, 314, .inl S)), (q2, .inl (cI, 314, .inl Bg)), (q3, .inl (cI, 1256, .inl Pa)), (q4, .inl (cI, 80, .inl Tx)), (q5, .inl (cI, 5, .inl Nu))] := hD
    refine W.eq (g2 := F0 m 95 ls [.int r_8]) rfl ?_
    refine lv_iload_n hx hb dX9_isOf_95 rfl (lv_at hl 2 rfl) ?_
    refine lv_icmp_ne (tgt := 103) hx hb dX9_isOf_96 (by decide) (fun c96 => ?_) (fun c96 => ?_)
    · refine lv_iconst (v := 0) hx hb dX9_isOf_103 (by decide) ?_
      exact endZ hx hb hr hlk hP hK hD hS dX9_isOf_104 rfl false rfl ⟨(if_neg c1_0).trans ((if_neg c1_1).trans ((if_neg c1_2).trans ((if_pos c1_3).trans ((bd1_e hk8).trans ((if_neg c96).trans rfl))))), rfl⟩
    · refine lv_iconst (v := 1) hx hb dX9_isOf_99 (by decide) ?_
      refine lv_goto (tgt := 104) hx hb dX9_isOf_100 (by decide) ?_
      exact endZ hx hb hr hlk hP hK hD hS dX9_isOf_104 rfl true rfl ⟨(if_neg c1_0).trans ((if_neg c1_1).trans ((if_neg c1_2).trans ((if_pos c1_3).trans ((bd1_e hk8).trans ((if_pos c96).trans rfl))))), rfl⟩
  by_cases c1_4 : what = 4
  · refine lv_tableIn (tgt := 89) hx hb dX9_isOf_1 (by rw [c1_4]; decide) (by rw [c1_4]; decide) (by rw [c1_4]; rfl) (by decide) ?_
    refine lv_aload_n hx hb dX9_isOf_89 rfl (lv_at hl 0 rfl) ?_
    refine lv_iload_n hx hb dX9_isOf_90 rfl (lv_at hl 1 rfl) ?_
    refine lv_iconst (v := 1) hx hb dX9_isOf_91 (by decide) ?_
    refine callVi (As := [.int address, .int 1]) (rest := []) (mX9_of l D cI cC cS _ o q1 q2 q3 q4 q5 S Bg Pa Tx Nu st ln ps fm rs address 1 hfa (vp_d rfl)) ⟨hx, hb, hml, hown, hts⟩ (cwV 2 hts gX9_isOf_X9_of rfl rfl rfl (by decide +kernel) ⟨Nat.le_of_ble_eq_true rfl, Nat.le_of_ble_eq_true rfl⟩) X0_blind (fun _ _ _ => trivial) hP hK hD hS hA hl [0, 1, 2, 3, 4, 5] rfl rfl 0 7 rfl rfl rfl rfl rfl (Nat.le_of_ble_eq_true rfl) dX9_isOf_92 ⟨Nat.zero_le _, Nat.zero_le _⟩ (fun _ => rfl) (fun u_ H locs hk10 hP hD hS => ?_)
    obtain ⟨r_10, e_r_10⟩ : ∃ z, z = u_ := ⟨_, rfl⟩
    subst e_r_10
    have hP : va_P D vwCl [(o, .inr (7, [.ref q1, .ref q2, .ref q3, .int st, .ref q4, .int ln, .int ps, .int (bi fm), .int rs, .ref q5])), (q1, .inl (cI, 314, .inl S)), (q2, .inl (cI, 314, .inl Bg)), (q3, .inl (cI, 1256, .inl Pa)), (q4, .inl (cI, 80, .inl Tx)), (q5, .inl (cI, 5, .inl Nu))] H := hP
    have hD : va_D Fr [(o, .inr (7, [.ref q1, .ref q2, .ref q3, .int st, .ref q4, .int ln, .int ps, .int (bi fm), .int rs, .ref q5])), (q1, .inl (cI, 314, .inl S)), (q2, .inl (cI, 314, .inl Bg)), (q3, .inl (cI, 1256, .inl Pa)), (q4, .inl (cI, 80, .inl Tx)), (q5, .inl (cI, 5, .inl Nu))] := hD
    refine W.eq (g2 := F0 m 95 ls [.int r_10]) rfl ?_
    refine lv_iload_n hx hb dX9_isOf_95 rfl (lv_at hl 2 rfl) ?_
    refine lv_icmp_ne (tgt := 103) hx hb dX9_isOf_96 (by decide) (fun c96 => ?_) (fun c96 => ?_)
    · refine lv_iconst (v := 0) hx hb dX9_isOf_103 (by decide) ?_
      exact endZ hx hb hr hlk hP hK hD hS dX9_isOf_104 rfl false rfl ⟨(if_neg c1_0).trans ((if_neg c1_1).trans ((if_neg c1_2).trans ((if_neg c1_3).trans ((if_pos c1_4).trans ((bd1_e hk10).trans ((if_neg c96).trans rfl)))))), rfl⟩
    · refine lv_iconst (v := 1) hx hb dX9_isOf_99 (by decide) ?_
      refine lv_goto (tgt := 104) hx hb dX9_isOf_100 (by decide) ?_
      exact endZ hx hb hr hlk hP hK hD hS dX9_isOf_104 rfl true rfl ⟨(if_neg c1_0).trans ((if_neg c1_1).trans ((if_neg c1_2).trans ((if_neg c1_3).trans ((if_pos c1_4).trans ((bd1_e hk10).trans ((if_pos c96).trans rfl)))))), rfl⟩
  by_cases c1_5 : what = 5
  · refine lv_tableIn (tgt := 54) hx hb dX9_isOf_1 (by rw [c1_5]; decide) (by rw [c1_5]; decide) (by rw [c1_5]; rfl) (by decide) ?_
    refine lv_aload_n hx hb dX9_isOf_54 rfl (lv_at hl 0 rfl) ?_
    refine lv_iload_n hx hb dX9_isOf_55 rfl (lv_at hl 1 rfl) ?_
    refine callVi (As := [.int address]) (rest := []) (mX9_isFixed l D cI cC cS _ o q1 q2 q3 q4 q5 S Bg Pa Tx Nu st ln ps fm rs address hfa) ⟨hx, hb, hml, hown, hts⟩ (cwV 1 hts gX9_isOf_X9_isFixed rfl rfl rfl (by decide +kernel) ⟨Nat.le_of_ble_eq_true rfl, Nat.le_of_ble_eq_true rfl⟩) X0_blind (fun _ _ _ => trivial) hP hK hD hS hA hl [0, 1, 2, 3, 4, 5] rfl rfl 0 7 rfl rfl rfl rfl rfl (Nat.le_of_ble_eq_true rfl) dX9_isOf_56 ⟨Nat.zero_le _, Nat.zero_le _⟩ (fun _ => rfl) (fun u_ H locs hk12 hP hD hS => ?_)
    obtain ⟨r_12, e_r_12⟩ : ∃ z, z = u_ := ⟨_, rfl⟩
    subst e_r_12
    have hP : va_P D vwCl [(o, .inr (7, [.ref q1, .ref q2, .ref q3, .int st, .ref q4, .int ln, .int ps, .int (bi fm), .int rs, .ref q5])), (q1, .inl (cI, 314, .inl S)), (q2, .inl (cI, 314, .inl Bg)), (q3, .inl (cI, 1256, .inl Pa)), (q4, .inl (cI, 80, .inl Tx)), (q5, .inl (cI, 5, .inl Nu))] H := hP
    have hD : va_D Fr [(o, .inr (7, [.ref q1, .ref q2, .ref q3, .int st, .ref q4, .int ln, .int ps, .int (bi fm), .int rs, .ref q5])), (q1, .inl (cI, 314, .inl S)), (q2, .inl (cI, 314, .inl Bg)), (q3, .inl (cI, 1256, .inl Pa)), (q4, .inl (cI, 80, .inl Tx)), (q5, .inl (cI, 5, .inl Nu))] := hD
    refine W.eq (g2 := F0 m 59 ls [.int (bi r_12)]) rfl ?_
    exact endZ hx hb hr hlk hP hK hD hS dX9_isOf_59 (bi_nar _) r_12 rfl ⟨(if_neg c1_0).trans ((if_neg c1_1).trans ((if_neg c1_2).trans ((if_neg c1_3).trans ((if_neg c1_4).trans ((if_pos c1_5).trans ((bd1_e hk12).trans rfl)))))), rfl⟩
  by_cases c1_6 : what = 6
  · refine lv_tableIn (tgt := 60) hx hb dX9_isOf_1 (by rw [c1_6]; decide) (by rw [c1_6]; decide) (by rw [c1_6]; rfl) (by decide) ?_
    refine lv_aload_n hx hb dX9_isOf_60 rfl (lv_at hl 0 rfl) ?_
    refine lv_iload_n hx hb dX9_isOf_61 rfl (lv_at hl 1 rfl) ?_
    refine callVi (As := [.int address]) (rest := []) (mX9_isOver l D cI cC cS _ o q1 q2 q3 q4 q5 S Bg Pa Tx Nu st ln ps fm rs address hfa) ⟨hx, hb, hml, hown, hts⟩ (cwV 1 hts gX9_isOf_X9_isOver rfl rfl rfl (by decide +kernel) ⟨Nat.le_of_ble_eq_true rfl, Nat.le_of_ble_eq_true rfl⟩) X0_blind (fun _ _ _ => trivial) hP hK hD hS hA hl [0, 1, 2, 3, 4, 5] rfl rfl 0 7 rfl rfl rfl rfl rfl (Nat.le_of_ble_eq_true rfl) dX9_isOf_62 ⟨Nat.zero_le _, Nat.zero_le _⟩ (fun _ => rfl) (fun u_ H locs hk14 hP hD hS => ?_)
    obtain ⟨r_14, e_r_14⟩ : ∃ z, z = u_ := ⟨_, rfl⟩
    subst e_r_14
    have hP : va_P D vwCl [(o, .inr (7, [.ref q1, .ref q2, .ref q3, .int st, .ref q4, .int ln, .int ps, .int (bi fm), .int rs, .ref q5])), (q1, .inl (cI, 314, .inl S)), (q2, .inl (cI, 314, .inl Bg)), (q3, .inl (cI, 1256, .inl Pa)), (q4, .inl (cI, 80, .inl Tx)), (q5, .inl (cI, 5, .inl Nu))] H := hP
    have hD : va_D Fr [(o, .inr (7, [.ref q1, .ref q2, .ref q3, .int st, .ref q4, .int ln, .int ps, .int (bi fm), .int rs, .ref q5])), (q1, .inl (cI, 314, .inl S)), (q2, .inl (cI, 314, .inl Bg)), (q3, .inl (cI, 1256, .inl Pa)), (q4, .inl (cI, 80, .inl Tx)), (q5, .inl (cI, 5, .inl Nu))] := hD
    refine W.eq (g2 := F0 m 65 ls [.int (bi r_14)]) rfl ?_
    exact endZ hx hb hr hlk hP hK hD hS dX9_isOf_65 (bi_nar _) r_14 rfl ⟨(if_neg c1_0).trans ((if_neg c1_1).trans ((if_neg c1_2).trans ((if_neg c1_3).trans ((if_neg c1_4).trans ((if_neg c1_5).trans ((if_pos c1_6).trans ((bd1_e hk14).trans rfl))))))), rfl⟩
  by_cases c1_7 : what = 7
  · refine lv_tableIn (tgt := 66) hx hb dX9_isOf_1 (by rw [c1_7]; decide) (by rw [c1_7]; decide) (by rw [c1_7]; rfl) (by decide) ?_
    refine lv_aload_n hx hb dX9_isOf_66 rfl (lv_at hl 0 rfl) ?_
    refine lv_iload_n hx hb dX9_isOf_67 rfl (lv_at hl 1 rfl) ?_
    refine callVi (As := [.int address]) (rest := []) (mX9_isOpen l D cI cC cS _ o q1 q2 q3 q4 q5 S Bg Pa Tx Nu st ln ps fm rs address hfa) ⟨hx, hb, hml, hown, hts⟩ (cwV 1 hts gX9_isOf_X9_isOpen rfl rfl rfl (by decide +kernel) ⟨Nat.le_of_ble_eq_true rfl, Nat.le_of_ble_eq_true rfl⟩) X0_blind (fun _ _ _ => trivial) hP hK hD hS hA hl [0, 1, 2, 3, 4, 5] rfl rfl 0 7 rfl rfl rfl rfl rfl (Nat.le_of_ble_eq_true rfl) dX9_isOf_68 ⟨Nat.zero_le _, Nat.zero_le _⟩ (fun _ => rfl) (fun u_ H locs hk16 hP hD hS => ?_)
    obtain ⟨r_16, e_r_16⟩ : ∃ z, z = u_ := ⟨_, rfl⟩
    subst e_r_16
    have hP : va_P D vwCl [(o, .inr (7, [.ref q1, .ref q2, .ref q3, .int st, .ref q4, .int ln, .int ps, .int (bi fm), .int rs, .ref q5])), (q1, .inl (cI, 314, .inl S)), (q2, .inl (cI, 314, .inl Bg)), (q3, .inl (cI, 1256, .inl Pa)), (q4, .inl (cI, 80, .inl Tx)), (q5, .inl (cI, 5, .inl Nu))] H := hP
    have hD : va_D Fr [(o, .inr (7, [.ref q1, .ref q2, .ref q3, .int st, .ref q4, .int ln, .int ps, .int (bi fm), .int rs, .ref q5])), (q1, .inl (cI, 314, .inl S)), (q2, .inl (cI, 314, .inl Bg)), (q3, .inl (cI, 1256, .inl Pa)), (q4, .inl (cI, 80, .inl Tx)), (q5, .inl (cI, 5, .inl Nu))] := hD
    refine W.eq (g2 := F0 m 71 ls [.int (bi r_16)]) rfl ?_
    refine lv_if_eq (tgt := 87) hx hb dX9_isOf_71 (by decide) (fun c71 => ?_) (fun c71 => ?_)
    · refine lv_iconst (v := 0) hx hb dX9_isOf_87 (by decide) ?_
      exact endZ hx hb hr hlk hP hK hD hS dX9_isOf_88 rfl false rfl ⟨(if_neg c1_0).trans ((if_neg c1_1).trans ((if_neg c1_2).trans ((if_neg c1_3).trans ((if_neg c1_4).trans ((if_neg c1_5).trans ((if_neg c1_6).trans ((if_pos c1_7).trans ((bd1_e hk16).trans ((if_neg (bi_z c71)).trans rfl))))))))), rfl⟩
    · refine lv_aload_n hx hb dX9_isOf_74 rfl (lv_at hl 0 rfl) ?_
      refine lv_iload_n hx hb dX9_isOf_75 rfl (lv_at hl 1 rfl) ?_
      refine lv_iconst (v := 2) hx hb dX9_isOf_76 (by decide) ?_
      refine callVi (As := [.int address, .int 2]) (rest := []) (mX9_of l D cI cC cS _ o q1 q2 q3 q4 q5 S Bg Pa Tx Nu st ln ps fm rs address 2 hfa (vp_d rfl)) ⟨hx, hb, hml, hown, hts⟩ (cwV 2 hts gX9_isOf_X9_of rfl rfl rfl (by decide +kernel) ⟨Nat.le_of_ble_eq_true rfl, Nat.le_of_ble_eq_true rfl⟩) X0_blind (fun _ _ _ => trivial) hP hK hD hS hA hl [0, 1, 2, 3, 4, 5] rfl rfl 0 7 rfl rfl rfl rfl rfl (Nat.le_of_ble_eq_true rfl) dX9_isOf_77 ⟨Nat.zero_le _, Nat.zero_le _⟩ (fun _ => rfl) (fun u_ H locs hk18 hP hD hS => ?_)
      obtain ⟨r_18, e_r_18⟩ : ∃ z, z = u_ := ⟨_, rfl⟩
      subst e_r_18
      have hP : va_P D vwCl [(o, .inr (7, [.ref q1, .ref q2, .ref q3, .int st, .ref q4, .int ln, .int ps, .int (bi fm), .int rs, .ref q5])), (q1, .inl (cI, 314, .inl S)), (q2, .inl (cI, 314, .inl Bg)), (q3, .inl (cI, 1256, .inl Pa)), (q4, .inl (cI, 80, .inl Tx)), (q5, .inl (cI, 5, .inl Nu))] H := hP
      have hD : va_D Fr [(o, .inr (7, [.ref q1, .ref q2, .ref q3, .int st, .ref q4, .int ln, .int ps, .int (bi fm), .int rs, .ref q5])), (q1, .inl (cI, 314, .inl S)), (q2, .inl (cI, 314, .inl Bg)), (q3, .inl (cI, 1256, .inl Pa)), (q4, .inl (cI, 80, .inl Tx)), (q5, .inl (cI, 5, .inl Nu))] := hD
      refine W.eq (g2 := F0 m 80 ls [.int r_18]) rfl ?_
      refine lv_if_ne (tgt := 87) hx hb dX9_isOf_80 (by decide) (fun c80 => ?_) (fun c80 => ?_)
      · refine lv_iconst (v := 0) hx hb dX9_isOf_87 (by decide) ?_
        exact endZ hx hb hr hlk hP hK hD hS dX9_isOf_88 rfl false rfl ⟨(if_neg c1_0).trans ((if_neg c1_1).trans ((if_neg c1_2).trans ((if_neg c1_3).trans ((if_neg c1_4).trans ((if_neg c1_5).trans ((if_neg c1_6).trans ((if_pos c1_7).trans ((bd1_e hk16).trans ((if_pos (bi_o c71)).trans ((bd1_e hk18).trans ((if_neg c80).trans rfl))))))))))), rfl⟩
      · refine lv_iconst (v := 1) hx hb dX9_isOf_83 (by decide) ?_
        refine lv_goto (tgt := 88) hx hb dX9_isOf_84 (by decide) ?_
        exact endZ hx hb hr hlk hP hK hD hS dX9_isOf_88 rfl true rfl ⟨(if_neg c1_0).trans ((if_neg c1_1).trans ((if_neg c1_2).trans ((if_neg c1_3).trans ((if_neg c1_4).trans ((if_neg c1_5).trans ((if_neg c1_6).trans ((if_pos c1_7).trans ((bd1_e hk16).trans ((if_pos (bi_o c71)).trans ((bd1_e hk18).trans ((if_pos c80).trans rfl))))))))))), rfl⟩
  refine lv_tableOut (tgt := 89) hx hb dX9_isOf_1 (tab_out (lo := 0) (hi := 7) (by decide) (fun k kk1 kk2 => ?_)) (by decide) ?_
  · rcases (show k = 0 ∨ k = 1 ∨ k = 2 ∨ k = 3 ∨ k = 4 ∨ k = 5 ∨ k = 6 ∨ k = 7 by omega) with rfl | rfl | rfl | rfl | rfl | rfl | rfl | rfl
    · exact ne_ti c1_0 (by decide)
    · exact ne_ti c1_1 (by decide)
    · exact ne_ti c1_2 (by decide)
    · exact ne_ti c1_3 (by decide)
    · exact ne_ti c1_4 (by decide)
    · exact ne_ti c1_5 (by decide)
    · exact ne_ti c1_6 (by decide)
    · exact ne_ti c1_7 (by decide)
  refine lv_aload_n hx hb dX9_isOf_89 rfl (lv_at hl 0 rfl) ?_
  refine lv_iload_n hx hb dX9_isOf_90 rfl (lv_at hl 1 rfl) ?_
  refine lv_iconst (v := 1) hx hb dX9_isOf_91 (by decide) ?_
  refine callVi (As := [.int address, .int 1]) (rest := []) (mX9_of l D cI cC cS _ o q1 q2 q3 q4 q5 S Bg Pa Tx Nu st ln ps fm rs address 1 hfa (vp_d rfl)) ⟨hx, hb, hml, hown, hts⟩ (cwV 2 hts gX9_isOf_X9_of rfl rfl rfl (by decide +kernel) ⟨Nat.le_of_ble_eq_true rfl, Nat.le_of_ble_eq_true rfl⟩) X0_blind (fun _ _ _ => trivial) hP hK hD hS hA hl [0, 1, 2, 3, 4, 5] rfl rfl 0 7 rfl rfl rfl rfl rfl (Nat.le_of_ble_eq_true rfl) dX9_isOf_92 ⟨Nat.zero_le _, Nat.zero_le _⟩ (fun _ => rfl) (fun u_ H locs hk20 hP hD hS => ?_)
  obtain ⟨r_20, e_r_20⟩ : ∃ z, z = u_ := ⟨_, rfl⟩
  subst e_r_20
  have hP : va_P D vwCl [(o, .inr (7, [.ref q1, .ref q2, .ref q3, .int st, .ref q4, .int ln, .int ps, .int (bi fm), .int rs, .ref q5])), (q1, .inl (cI, 314, .inl S)), (q2, .inl (cI, 314, .inl Bg)), (q3, .inl (cI, 1256, .inl Pa)), (q4, .inl (cI, 80, .inl Tx)), (q5, .inl (cI, 5, .inl Nu))] H := hP
  have hD : va_D Fr [(o, .inr (7, [.ref q1, .ref q2, .ref q3, .int st, .ref q4, .int ln, .int ps, .int (bi fm), .int rs, .ref q5])), (q1, .inl (cI, 314, .inl S)), (q2, .inl (cI, 314, .inl Bg)), (q3, .inl (cI, 1256, .inl Pa)), (q4, .inl (cI, 80, .inl Tx)), (q5, .inl (cI, 5, .inl Nu))] := hD
  refine W.eq (g2 := F0 m 95 ls [.int r_20]) rfl ?_
  refine lv_iload_n hx hb dX9_isOf_95 rfl (lv_at hl 2 rfl) ?_
  refine lv_icmp_ne (tgt := 103) hx hb dX9_isOf_96 (by decide) (fun c96 => ?_) (fun c96 => ?_)
  · refine lv_iconst (v := 0) hx hb dX9_isOf_103 (by decide) ?_
    exact endZ hx hb hr hlk hP hK hD hS dX9_isOf_104 rfl false rfl ⟨(if_neg c1_0).trans ((if_neg c1_1).trans ((if_neg c1_2).trans ((if_neg c1_3).trans ((if_neg c1_4).trans ((if_neg c1_5).trans ((if_neg c1_6).trans ((if_neg c1_7).trans ((bd1_e hk20).trans ((if_neg c96).trans rfl))))))))), rfl⟩
  · refine lv_iconst (v := 1) hx hb dX9_isOf_99 (by decide) ?_
    refine lv_goto (tgt := 104) hx hb dX9_isOf_100 (by decide) ?_
    exact endZ hx hb hr hlk hP hK hD hS dX9_isOf_104 rfl true rfl ⟨(if_neg c1_0).trans ((if_neg c1_1).trans ((if_neg c1_2).trans ((if_neg c1_3).trans ((if_neg c1_4).trans ((if_neg c1_5).trans ((if_neg c1_6).trans ((if_neg c1_7).trans ((bd1_e hk20).trans ((if_pos c96).trans rfl))))))))), rfl⟩


/-- the loop of X9_addresses at 16 -/
def fX9_addresses_16 (S : Nat → Int32) (what : Int32) : Nat → Int32 → Int32 → Int32
  | 0, _, _ => default
  | fu + 1, x2, x3 =>
    (if S 0 ≤ x3 then x2 else bd1 (fX9_isOf S x3 what) (fun (r_4 : Bool) => (if r_4 = true then bd1 (x2 ||| (1 <<< (x3 &&& 31))) (fun (y_6 : Int32) => fX9_addresses_16 S what fu y_6 (x3 + 1)) else bd1 (x2 ||| 0) (fun (y_5 : Int32) => fX9_addresses_16 S what fu y_5 (x3 + 1)))))
theorem fX9_addresses_16_s (S : Nat → Int32) (what : Int32) (fu : Nat) (x2 : Int32) (x3 : Int32) : fX9_addresses_16 S what (fu + 1) x2 x3 =
    (if S 0 ≤ x3 then x2 else bd1 (fX9_isOf S x3 what) (fun (r_4 : Bool) => (if r_4 = true then bd1 (x2 ||| (1 <<< (x3 &&& 31))) (fun (y_6 : Int32) => fX9_addresses_16 S what fu y_6 (x3 + 1)) else bd1 (x2 ||| 0) (fun (y_5 : Int32) => fX9_addresses_16 S what fu y_5 (x3 + 1))))) := rfl

/-- the value of X9_addresses, path by path -/
def fX9_addresses (S : Nat → Int32) (what : Int32) : Int32 :=
  bd1 (fX9_in what 0 7) (fun (r_2 : Bool) => (if r_2 = true then fX9_addresses_16 S what (((S 0).toInt - (0 : Int32).toInt).toNat + 1) 0 0 else (-1)))

set_option maxHeartbeats 4000000 in
set_option maxRecDepth 100000 in
/-- X9_addresses -/
theorem mX9_addresses (l : Launch) (D : va_G) (cI cC cS : ClassId) (sz : Nat) (o : Nat) (q1 : Nat) (q2 : Nat) (q3 : Nat) (q4 : Nat) (q5 : Nat) (S : Nat → Int32) (Bg : Nat → Int32) (Pa : Nat → Int32) (Tx : Nat → Int32) (Nu : Nat → Int32) (st : Int32) (ln : Int32) (ps : Int32) (fm : Bool) (rs : Int32) (what : Int32) (ho : okS S) : Met l yX9_addresses wsX9_addresses ({ frames := 5, cells := 0, slots := 0, locals := 107 } : Jvm.Room) (va_Pc [.ref o, .int what] (wPre D (TY cI cC cS) [(o, .inr (7, [.ref q1, .ref q2, .ref q3, .int st, .ref q4, .int ln, .int ps, .int (bi fm), .int rs, .ref q5])), (q1, .inl (cI, 314, .inl S)), (q2, .inl (cI, 314, .inl Bg)), (q3, .inl (cI, 1256, .inl Pa)), (q4, .inl (cI, 80, .inl Tx)), (q5, .inl (cI, 5, .inl Nu))] sz X0)) (qI D (TY cI cC cS) (fun (r : Int32) (u : Int32) => fX9_addresses S what = u ∧ r = u) (fun u => [(o, .inr (7, [.ref q1, .ref q2, .ref q3, .int st, .ref q4, .int ln, .int ps, .int (bi fm), .int rs, .ref q5])), (q1, .inl (cI, 314, .inl S)), (q2, .inl (cI, 314, .inl Bg)), (q3, .inl (cI, 1256, .inl Pa)), (q4, .inl (cI, 80, .inl Tx)), (q5, .inl (cI, 5, .inl Nu))]) (va_A [(o, .inr (7, [.ref q1, .ref q2, .ref q3, .int st, .ref q4, .int ln, .int ps, .int (bi fm), .int rs, .ref q5])), (q1, .inl (cI, 314, .inl S)), (q2, .inl (cI, 314, .inl Bg)), (q3, .inl (cI, 1256, .inl Pa)), (q4, .inl (cI, 80, .inl Tx)), (q5, .inl (cI, 5, .inl Nu))] sz)) 0 0 (va_A [(o, .inr (7, [.ref q1, .ref q2, .ref q3, .int st, .ref q4, .int ln, .int ps, .int (bi fm), .int rs, .ref q5])), (q1, .inl (cI, 314, .inl S)), (q2, .inl (cI, 314, .inl Bg)), (q3, .inl (cI, 1256, .inl Pa)), (q4, .inl (cI, 80, .inl Tx)), (q5, .inl (cI, 5, .inl Nu))] sz) := by
  refine mkM (fun Fr => qI D (TY cI cC cS) (fun (r : Int32) (u : Int32) => fX9_addresses S what = u ∧ r = u) (fun u => [(o, .inr (7, [.ref q1, .ref q2, .ref q3, .int st, .ref q4, .int ln, .int ps, .int (bi fm), .int rs, .ref q5])), (q1, .inl (cI, 314, .inl S)), (q2, .inl (cI, 314, .inl Bg)), (q3, .inl (cI, 1256, .inl Pa)), (q4, .inl (cI, 80, .inl Tx)), (q5, .inl (cI, 5, .inl Nu))]) Fr) (cc := cX9_addresses) (maxL := 4) (ret := (some .int)) (own := RX9) (lv := [(0, .ref o), (1, .int what)]) (by decide) rfl rfl (Nat.le_of_ble_eq_true rfl) rfl ?_
  intro p e s m below meth c Fr ls hx hb hr hts hown hml hlk hin hP hK hD hS hA hAe hsz hX hl
  have w_1 := hts (.fieldLink RX9 7 "FieldQuotasModel" "s" "[I") (List.mem_of_getElem? (i := 1) rfl)
  have w_2 := sub_r (big := wsX9_addresses) (u_ws RX9 TX9 10) [26, 27, 28, 29, 30, 31, 32, 33, 34, 35] rfl
  refine lv_iload_n hx hb dX9_addresses_0 rfl (lv_at hl 1 rfl) ?_
  refine lv_iconst (v := 0) hx hb dX9_addresses_1 (by decide) ?_
  refine lv_bipush (v := 7) hx hb dX9_addresses_2 (by decide) ?_
  refine callSi (As := [.int what, .int 0, .int 7]) (rest := []) (mX9_in l D cI cC cS _ what 0 7) ⟨hx, hb, hml, hown, hts⟩ (va_cwS 3 hts gX9_addresses_X9_in rfl rfl rfl (by decide +kernel) ⟨Nat.le_of_ble_eq_true rfl, Nat.le_of_ble_eq_true rfl⟩) hP hK hD hS hA hl rfl rfl (Nat.le_of_ble_eq_true rfl) dX9_addresses_4 ⟨Nat.zero_le _, Nat.zero_le _⟩ (fun u_ H locs hk2 hP hS => ?_)
  obtain ⟨r_2, e_r_2⟩ : ∃ z, z = u_ := ⟨_, rfl⟩
  subst e_r_2
  refine W.eq (g2 := F0 m 7 ls [.int (bi r_2)]) rfl ?_
  refine lv_if_ne (tgt := 12) hx hb dX9_addresses_7 (by decide) (fun c7 => ?_) (fun c7 => ?_)
  · refine lv_iconst (v := 0) hx hb dX9_addresses_12 (by decide) ?_
    refine lv_istore_n (lv' := [(2, .int 0), (0, .ref o), (1, .int what)]) hx hb dX9_addresses_13 rfl hl (by decide) rfl (fun ls hl => ?_)
    refine lv_iconst (v := 0) hx hb dX9_addresses_14 (by decide) ?_
    refine lv_istore_n (lv' := [(3, .int 0), (2, .int 0), (0, .ref o), (1, .int what)]) hx hb dX9_addresses_15 rfl hl (by decide) rfl (fun ls hl => ?_)
    have K_16 : ∀ (fu : Nat) (x2 : Int32) (x3 : Int32) (H : Heap) (locs : List Loc) (ls : Array Slot), va_P D vwCl [(o, .inr (7, [.ref q1, .ref q2, .ref q3, .int st, .ref q4, .int ln, .int ps, .int (bi fm), .int rs, .ref q5])), (q1, .inl (cI, 314, .inl S)), (q2, .inl (cI, 314, .inl Bg)), (q3, .inl (cI, 1256, .inl Pa)), (q4, .inl (cI, 80, .inl Tx)), (q5, .inl (cI, 5, .inl Nu))] H → va_D Fr [(o, .inr (7, [.ref q1, .ref q2, .ref q3, .int st, .ref q4, .int ln, .int ps, .int (bi fm), .int rs, .ref q5])), (q1, .inl (cI, 314, .inl S)), (q2, .inl (cI, 314, .inl Bg)), (q3, .inl (cI, 1256, .inl Pa)), (q4, .inl (cI, 80, .inl Tx)), (q5, .inl (cI, 5, .inl Nu))] → va_S Fr s.heap H locs → lv_has ls 4 [(0, .ref o), (1, .int what), (2, .int x2), (3, .int x3)] → (¬ x3 < 0) → ((S 0).toInt - x3.toInt).toNat < fu → fX9_addresses S what = fX9_addresses_16 S what fu x2 x3 → W p l e (headSpec wsX9_addresses ({ frames := 5, cells := 0, slots := 0, locals := 107 } : Jvm.Room)).room s m ([.ref o, .int what] : List Value).toArray below meth c H locs 0 0 (MQ below (qI D (TY cI cC cS) (fun (r : Int32) (u : Int32) => fX9_addresses S what = u ∧ r = u) (fun u => [(o, .inr (7, [.ref q1, .ref q2, .ref q3, .int st, .ref q4, .int ln, .int ps, .int (bi fm), .int rs, .ref q5])), (q1, .inl (cI, 314, .inl S)), (q2, .inl (cI, 314, .inl Bg)), (q3, .inl (cI, 1256, .inl Pa)), (q4, .inl (cI, 80, .inl Tx)), (q5, .inl (cI, 5, .inl Nu))]) Fr) ([.ref o, .int what] : List Value).toArray s 0 0 Fr) (F0 m 16 ls []) := by
      intro fu
      induction fu with
      | zero => intros; exact absurd (by assumption) (Nat.not_lt_zero _)
      | succ fu ih_16 =>
        intro x2 x3 H locs ls hP hD hS hl hi0 hm_16 E_16
        refine lv_iload_n hx hb dX9_addresses_16 rfl (lv_at hl 3 rfl) ?_
        refine lv_aload_n hx hb dX9_addresses_17 rfl (lv_at hl 0 rfl) ?_
        refine va_get (D := D) (ci := 7) (C := RX9) (T := TX9) (N := 10) hx hb hts w_2 hown hK hP 0 rfl rfl 0 (by decide) w_1 (fun _ h9 => h9) rfl dX9_addresses_18 ?_
        refine lv_iconst (v := 0) hx hb dX9_addresses_21 (by decide) ?_
        refine va_iald hx hb hK hP 1 0 rfl rfl (vp_d rfl) dX9_addresses_22 ?_
        refine W.eq (g2 := F0 m 23 ls [.int (S 0), .int x3]) rfl ?_
        refine lv_icmp_ge (tgt := 51) hx hb dX9_addresses_23 (by decide) (fun c23 => ?_) (fun c23 => ?_)
        · refine lv_iload_n hx hb dX9_addresses_51 rfl (lv_at hl 2 rfl) ?_
          exact endI hx hb hr hlk hP hK hD hS dX9_addresses_52 x2 rfl ⟨(E_16).trans ((fX9_addresses_16_s S what fu x2 x3).trans ((if_pos c23).trans rfl)), rfl⟩
        · refine lv_iload_n hx hb dX9_addresses_26 rfl (lv_at hl 2 rfl) ?_
          refine lv_aload_n hx hb dX9_addresses_27 rfl (lv_at hl 0 rfl) ?_
          refine lv_iload_n hx hb dX9_addresses_28 rfl (lv_at hl 3 rfl) ?_
          refine lv_iload_n hx hb dX9_addresses_29 rfl (lv_at hl 1 rfl) ?_
          refine callVi (As := [.int x3, .int what]) (rest := [.int x2]) (mX9_isOf l D cI cC cS _ o q1 q2 q3 q4 q5 S Bg Pa Tx Nu st ln ps fm rs x3 what (vp_k hi0 c23 ho.1)) ⟨hx, hb, hml, hown, hts⟩ (cwV 2 hts gX9_addresses_X9_isOf rfl rfl rfl (by decide +kernel) ⟨Nat.le_of_ble_eq_true rfl, Nat.le_of_ble_eq_true rfl⟩) X0_blind (fun _ _ _ => trivial) hP hK hD hS hA hl [0, 1, 2, 3, 4, 5] rfl rfl 0 7 rfl rfl rfl rfl rfl (Nat.le_of_ble_eq_true rfl) dX9_addresses_30 ⟨Nat.zero_le _, Nat.zero_le _⟩ (fun _ => rfl) (fun u_ H locs hk4 hP hD hS => ?_)
          obtain ⟨r_4, e_r_4⟩ : ∃ z, z = u_ := ⟨_, rfl⟩
          subst e_r_4
          have hP : va_P D vwCl [(o, .inr (7, [.ref q1, .ref q2, .ref q3, .int st, .ref q4, .int ln, .int ps, .int (bi fm), .int rs, .ref q5])), (q1, .inl (cI, 314, .inl S)), (q2, .inl (cI, 314, .inl Bg)), (q3, .inl (cI, 1256, .inl Pa)), (q4, .inl (cI, 80, .inl Tx)), (q5, .inl (cI, 5, .inl Nu))] H := hP
          have hD : va_D Fr [(o, .inr (7, [.ref q1, .ref q2, .ref q3, .int st, .ref q4, .int ln, .int ps, .int (bi fm), .int rs, .ref q5])), (q1, .inl (cI, 314, .inl S)), (q2, .inl (cI, 314, .inl Bg)), (q3, .inl (cI, 1256, .inl Pa)), (q4, .inl (cI, 80, .inl Tx)), (q5, .inl (cI, 5, .inl Nu))] := hD
          refine W.eq (g2 := F0 m 33 ls [.int (bi r_4), .int x2]) rfl ?_
          refine lv_if_eq (tgt := 42) hx hb dX9_addresses_33 (by decide) (fun c33 => ?_) (fun c33 => ?_)
          · refine lv_iconst (v := 0) hx hb dX9_addresses_42 (by decide) ?_
            refine lv_ior hx hb dX9_addresses_43 ?_
            refine lv_topi (fun y_5 ey_5 => ?_)
            refine lv_istore_n (lv' := [(2, .int y_5), (0, .ref o), (1, .int what), (3, .int x3)]) hx hb dX9_addresses_44 rfl hl (by decide) rfl (fun ls hl => ?_)
            refine lv_iinc (v := x3 + 1) (lv' := [(3, .int (x3 + 1)), (2, .int y_5), (0, .ref o), (1, .int what)]) hx hb dX9_addresses_45 hl (k := 3) rfl (by rfl) (by decide) rfl (fun ls hl => ?_)
            refine lv_goto (tgt := 16) hx hb dX9_addresses_48 (by decide) ?_
            exact ih_16 y_5 (x3 + 1) _ _ ls hP hD hS (lv_sub hl [2, 3, 1, 0] rfl) (up_k hi0 c23) (Nat.lt_of_lt_of_le (lp_dec c23) (Nat.le_of_lt_succ hm_16)) ((E_16).trans ((fX9_addresses_16_s S what fu x2 x3).trans ((if_neg c23).trans ((bd1_e hk4).trans ((if_neg (bi_z c33)).trans ((bd1_n ey_5).trans rfl))))))
          · refine lv_iconst (v := 1) hx hb dX9_addresses_36 (by decide) ?_
            refine lv_iload_n hx hb dX9_addresses_37 rfl (lv_at hl 3 rfl) ?_
            refine lv_ishl hx hb dX9_addresses_38 ?_
            refine lv_goto (tgt := 43) hx hb dX9_addresses_39 (by decide) ?_
            refine lv_ior hx hb dX9_addresses_43 ?_
            refine lv_topi (fun y_6 ey_6 => ?_)
            refine lv_istore_n (lv' := [(2, .int y_6), (0, .ref o), (1, .int what), (3, .int x3)]) hx hb dX9_addresses_44 rfl hl (by decide) rfl (fun ls hl => ?_)
            refine lv_iinc (v := x3 + 1) (lv' := [(3, .int (x3 + 1)), (2, .int y_6), (0, .ref o), (1, .int what)]) hx hb dX9_addresses_45 hl (k := 3) rfl (by rfl) (by decide) rfl (fun ls hl => ?_)
            refine lv_goto (tgt := 16) hx hb dX9_addresses_48 (by decide) ?_
            exact ih_16 y_6 (x3 + 1) _ _ ls hP hD hS (lv_sub hl [2, 3, 1, 0] rfl) (up_k hi0 c23) (Nat.lt_of_lt_of_le (lp_dec c23) (Nat.le_of_lt_succ hm_16)) ((E_16).trans ((fX9_addresses_16_s S what fu x2 x3).trans ((if_neg c23).trans ((bd1_e hk4).trans ((if_pos (bi_o c33)).trans ((bd1_n ey_6).trans rfl))))))
    exact K_16 (((S 0).toInt - (0 : Int32).toInt).toNat + 1) 0 0 _ _ ls hP hD hS (lv_sub hl [2, 3, 1, 0] rfl) (by decide) (Nat.lt_succ_self _) ((bd1_e hk2).trans ((if_pos (bi_o c7)).trans rfl))
  · refine lv_iconst (v := (-1)) hx hb dX9_addresses_10 (by decide) ?_
    exact endI hx hb hr hlk hP hK hD hS dX9_addresses_11 (-1) rfl ⟨(bd1_e hk2).trans ((if_neg (bi_z c7)).trans rfl), rfl⟩


/-- the value of X9_count, path by path -/
def fX9_count (S : Nat → Int32) (st : Int32) (ln : Int32) (what : Int32) : Int32 :=
  (if what = 0 then S what.toNatClampNeg else if what = 1 then S what.toNatClampNeg else if what = 2 then S what.toNatClampNeg else if what = 3 then S what.toNatClampNeg else if what = 4 then S what.toNatClampNeg else if what = 5 then S what.toNatClampNeg else if what = 6 then bd1 (fX9_wantedIn S 0) (fun (r_2 : Int32) => bd1 (fX9_wantedIn S 1) (fun (r_4 : Int32) => bd1 (fX9_wantedIn S 2) (fun (r_6 : Int32) => bd1 (fX9_wantedIn S 3) (fun (r_8 : Int32) => ((r_2 + r_4) + r_6) + r_8)))) else if what = 7 then bd1 (fX9_appointments S) (fun (r_10 : Int32) => r_10) else if what = 8 then st else if what = 9 then ln else if what = 10 then S ((6 + what) - 10).toNatClampNeg else if what = 11 then S ((6 + what) - 10).toNatClampNeg else (-1))

set_option maxHeartbeats 4000000 in
set_option maxRecDepth 100000 in
/-- X9_count -/
theorem mX9_count (l : Launch) (D : va_G) (cI cC cS : ClassId) (sz : Nat) (o : Nat) (q1 : Nat) (q2 : Nat) (q3 : Nat) (q4 : Nat) (q5 : Nat) (S : Nat → Int32) (Bg : Nat → Int32) (Pa : Nat → Int32) (Tx : Nat → Int32) (Nu : Nat → Int32) (st : Int32) (ln : Int32) (ps : Int32) (fm : Bool) (rs : Int32) (what : Int32) (ho : okS S) : Met l yX9_count wsX9_count ({ frames := 4, cells := 0, slots := 0, locals := 86 } : Jvm.Room) (va_Pc [.ref o, .int what] (wPre D (TY cI cC cS) [(o, .inr (7, [.ref q1, .ref q2, .ref q3, .int st, .ref q4, .int ln, .int ps, .int (bi fm), .int rs, .ref q5])), (q1, .inl (cI, 314, .inl S)), (q2, .inl (cI, 314, .inl Bg)), (q3, .inl (cI, 1256, .inl Pa)), (q4, .inl (cI, 80, .inl Tx)), (q5, .inl (cI, 5, .inl Nu))] sz X0)) (qI D (TY cI cC cS) (fun (r : Int32) (u : Int32) => fX9_count S st ln what = u ∧ r = u) (fun u => [(o, .inr (7, [.ref q1, .ref q2, .ref q3, .int st, .ref q4, .int ln, .int ps, .int (bi fm), .int rs, .ref q5])), (q1, .inl (cI, 314, .inl S)), (q2, .inl (cI, 314, .inl Bg)), (q3, .inl (cI, 1256, .inl Pa)), (q4, .inl (cI, 80, .inl Tx)), (q5, .inl (cI, 5, .inl Nu))]) (va_A [(o, .inr (7, [.ref q1, .ref q2, .ref q3, .int st, .ref q4, .int ln, .int ps, .int (bi fm), .int rs, .ref q5])), (q1, .inl (cI, 314, .inl S)), (q2, .inl (cI, 314, .inl Bg)), (q3, .inl (cI, 1256, .inl Pa)), (q4, .inl (cI, 80, .inl Tx)), (q5, .inl (cI, 5, .inl Nu))] sz)) 0 0 (va_A [(o, .inr (7, [.ref q1, .ref q2, .ref q3, .int st, .ref q4, .int ln, .int ps, .int (bi fm), .int rs, .ref q5])), (q1, .inl (cI, 314, .inl S)), (q2, .inl (cI, 314, .inl Bg)), (q3, .inl (cI, 1256, .inl Pa)), (q4, .inl (cI, 80, .inl Tx)), (q5, .inl (cI, 5, .inl Nu))] sz) := by
  refine mkM (fun Fr => qI D (TY cI cC cS) (fun (r : Int32) (u : Int32) => fX9_count S st ln what = u ∧ r = u) (fun u => [(o, .inr (7, [.ref q1, .ref q2, .ref q3, .int st, .ref q4, .int ln, .int ps, .int (bi fm), .int rs, .ref q5])), (q1, .inl (cI, 314, .inl S)), (q2, .inl (cI, 314, .inl Bg)), (q3, .inl (cI, 1256, .inl Pa)), (q4, .inl (cI, 80, .inl Tx)), (q5, .inl (cI, 5, .inl Nu))]) Fr) (cc := cX9_count) (maxL := 2) (ret := (some .int)) (own := RX9) (lv := [(0, .ref o), (1, .int what)]) (by decide) rfl rfl (Nat.le_of_ble_eq_true rfl) rfl ?_
  intro p e s m below meth c Fr ls hx hb hr hts hown hml hlk hin hP hK hD hS hA hAe hsz hX hl
  have w_1 := hts (.fieldLink RX9 7 "FieldQuotasModel" "s" "[I") (List.mem_of_getElem? (i := 1) rfl)
  have w_2 := sub_r (big := wsX9_count) (u_ws RX9 TX9 10) [33, 34, 35, 36, 37, 38, 39, 40, 41, 42] rfl
  have w_3 := hts (.fieldLink RX9 25 "FieldQuotasModel" "states" "I") (List.mem_of_getElem? (i := 2) rfl)
  have w_4 := hts (.fieldLink RX9 133 "FieldQuotasModel" "length" "I") (List.mem_of_getElem? (i := 3) rfl)
  refine lv_iload_n hx hb dX9_count_0 rfl (lv_at hl 1 rfl) ?_
  by_cases c1_0 : what = 0
  · refine lv_tableIn (tgt := 64) hx hb dX9_count_1 (by rw [c1_0]; decide) (by rw [c1_0]; decide) (by rw [c1_0]; rfl) (by decide) ?_
    refine lv_aload_n hx hb dX9_count_64 rfl (lv_at hl 0 rfl) ?_
    refine va_get (D := D) (ci := 7) (C := RX9) (T := TX9) (N := 10) hx hb hts w_2 hown hK hP 0 rfl rfl 0 (by decide) w_1 (fun _ h9 => h9) rfl dX9_count_65 ?_
    refine lv_iload_n hx hb dX9_count_68 rfl (lv_at hl 1 rfl) ?_
    refine va_iald hx hb hK hP 1 0 rfl rfl (by first | (rw [c1_0]; exact vp_d rfl) | (rw [c1_1]; exact vp_d rfl) | (rw [c1_2]; exact vp_d rfl) | (rw [c1_3]; exact vp_d rfl) | (rw [c1_4]; exact vp_d rfl) | (rw [c1_5]; exact vp_d rfl)) dX9_count_69 ?_
    exact endI hx hb hr hlk hP hK hD hS dX9_count_70 (S what.toNatClampNeg) rfl ⟨(if_pos c1_0).trans rfl, rfl⟩
  by_cases c1_1 : what = 1
  · refine lv_tableIn (tgt := 64) hx hb dX9_count_1 (by rw [c1_1]; decide) (by rw [c1_1]; decide) (by rw [c1_1]; rfl) (by decide) ?_
    refine lv_aload_n hx hb dX9_count_64 rfl (lv_at hl 0 rfl) ?_
    refine va_get (D := D) (ci := 7) (C := RX9) (T := TX9) (N := 10) hx hb hts w_2 hown hK hP 0 rfl rfl 0 (by decide) w_1 (fun _ h9 => h9) rfl dX9_count_65 ?_
    refine lv_iload_n hx hb dX9_count_68 rfl (lv_at hl 1 rfl) ?_
    refine va_iald hx hb hK hP 1 0 rfl rfl (by first | (rw [c1_0]; exact vp_d rfl) | (rw [c1_1]; exact vp_d rfl) | (rw [c1_2]; exact vp_d rfl) | (rw [c1_3]; exact vp_d rfl) | (rw [c1_4]; exact vp_d rfl) | (rw [c1_5]; exact vp_d rfl)) dX9_count_69 ?_
    exact endI hx hb hr hlk hP hK hD hS dX9_count_70 (S what.toNatClampNeg) rfl ⟨(if_neg c1_0).trans ((if_pos c1_1).trans rfl), rfl⟩
  by_cases c1_2 : what = 2
  · refine lv_tableIn (tgt := 64) hx hb dX9_count_1 (by rw [c1_2]; decide) (by rw [c1_2]; decide) (by rw [c1_2]; rfl) (by decide) ?_
    refine lv_aload_n hx hb dX9_count_64 rfl (lv_at hl 0 rfl) ?_
    refine va_get (D := D) (ci := 7) (C := RX9) (T := TX9) (N := 10) hx hb hts w_2 hown hK hP 0 rfl rfl 0 (by decide) w_1 (fun _ h9 => h9) rfl dX9_count_65 ?_
    refine lv_iload_n hx hb dX9_count_68 rfl (lv_at hl 1 rfl) ?_
    refine va_iald hx hb hK hP 1 0 rfl rfl (by first | (rw [c1_0]; exact vp_d rfl) | (rw [c1_1]; exact vp_d rfl) | (rw [c1_2]; exact vp_d rfl) | (rw [c1_3]; exact vp_d rfl) | (rw [c1_4]; exact vp_d rfl) | (rw [c1_5]; exact vp_d rfl)) dX9_count_69 ?_
    exact endI hx hb hr hlk hP hK hD hS dX9_count_70 (S what.toNatClampNeg) rfl ⟨(if_neg c1_0).trans ((if_neg c1_1).trans ((if_pos c1_2).trans rfl)), rfl⟩
  by_cases c1_3 : what = 3
  · refine lv_tableIn (tgt := 64) hx hb dX9_count_1 (by rw [c1_3]; decide) (by rw [c1_3]; decide) (by rw [c1_3]; rfl) (by decide) ?_
    refine lv_aload_n hx hb dX9_count_64 rfl (lv_at hl 0 rfl) ?_
    refine va_get (D := D) (ci := 7) (C := RX9) (T := TX9) (N := 10) hx hb hts w_2 hown hK hP 0 rfl rfl 0 (by decide) w_1 (fun _ h9 => h9) rfl dX9_count_65 ?_
    refine lv_iload_n hx hb dX9_count_68 rfl (lv_at hl 1 rfl) ?_
    refine va_iald hx hb hK hP 1 0 rfl rfl (by first | (rw [c1_0]; exact vp_d rfl) | (rw [c1_1]; exact vp_d rfl) | (rw [c1_2]; exact vp_d rfl) | (rw [c1_3]; exact vp_d rfl) | (rw [c1_4]; exact vp_d rfl) | (rw [c1_5]; exact vp_d rfl)) dX9_count_69 ?_
    exact endI hx hb hr hlk hP hK hD hS dX9_count_70 (S what.toNatClampNeg) rfl ⟨(if_neg c1_0).trans ((if_neg c1_1).trans ((if_neg c1_2).trans ((if_pos c1_3).trans rfl))), rfl⟩
  by_cases c1_4 : what = 4
  · refine lv_tableIn (tgt := 64) hx hb dX9_count_1 (by rw [c1_4]; decide) (by rw [c1_4]; decide) (by rw [c1_4]; rfl) (by decide) ?_
    refine lv_aload_n hx hb dX9_count_64 rfl (lv_at hl 0 rfl) ?_
    refine va_get (D := D) (ci := 7) (C := RX9) (T := TX9) (N := 10) hx hb hts w_2 hown hK hP 0 rfl rfl 0 (by decide) w_1 (fun _ h9 => h9) rfl dX9_count_65 ?_
    refine lv_iload_n hx hb dX9_count_68 rfl (lv_at hl 1 rfl) ?_
    refine va_iald hx hb hK hP 1 0 rfl rfl (by first | (rw [c1_0]; exact vp_d rfl) | (rw [c1_1]; exact vp_d rfl) | (rw [c1_2]; exact vp_d rfl) | (rw [c1_3]; exact vp_d rfl) | (rw [c1_4]; exact vp_d rfl) | (rw [c1_5]; exact vp_d rfl)) dX9_count_69 ?_
    exact endI hx hb hr hlk hP hK hD hS dX9_count_70 (S what.toNatClampNeg) rfl ⟨(if_neg c1_0).trans ((if_neg c1_1).trans ((if_neg c1_2).trans ((if_neg c1_3).trans ((if_pos c1_4).trans rfl)))), rfl⟩
  by_cases c1_5 : what = 5
  · refine lv_tableIn (tgt := 64) hx hb dX9_count_1 (by rw [c1_5]; decide) (by rw [c1_5]; decide) (by rw [c1_5]; rfl) (by decide) ?_
    refine lv_aload_n hx hb dX9_count_64 rfl (lv_at hl 0 rfl) ?_
    refine va_get (D := D) (ci := 7) (C := RX9) (T := TX9) (N := 10) hx hb hts w_2 hown hK hP 0 rfl rfl 0 (by decide) w_1 (fun _ h9 => h9) rfl dX9_count_65 ?_
    refine lv_iload_n hx hb dX9_count_68 rfl (lv_at hl 1 rfl) ?_
    refine va_iald hx hb hK hP 1 0 rfl rfl (by first | (rw [c1_0]; exact vp_d rfl) | (rw [c1_1]; exact vp_d rfl) | (rw [c1_2]; exact vp_d rfl) | (rw [c1_3]; exact vp_d rfl) | (rw [c1_4]; exact vp_d rfl) | (rw [c1_5]; exact vp_d rfl)) dX9_count_69 ?_
    exact endI hx hb hr hlk hP hK hD hS dX9_count_70 (S what.toNatClampNeg) rfl ⟨(if_neg c1_0).trans ((if_neg c1_1).trans ((if_neg c1_2).trans ((if_neg c1_3).trans ((if_neg c1_4).trans ((if_pos c1_5).trans rfl))))), rfl⟩
  by_cases c1_6 : what = 6
  · refine lv_tableIn (tgt := 71) hx hb dX9_count_1 (by rw [c1_6]; decide) (by rw [c1_6]; decide) (by rw [c1_6]; rfl) (by decide) ?_
    refine lv_aload_n hx hb dX9_count_71 rfl (lv_at hl 0 rfl) ?_
    refine lv_iconst (v := 0) hx hb dX9_count_72 (by decide) ?_
    refine callVi (As := [.int 0]) (rest := []) (mX9_wantedIn l D cI cC cS _ o q1 q2 q3 q4 q5 S Bg Pa Tx Nu st ln ps fm rs 0 (vp_d rfl)) ⟨hx, hb, hml, hown, hts⟩ (cwV 1 hts gX9_count_X9_wantedIn rfl rfl rfl (by decide +kernel) ⟨Nat.le_of_ble_eq_true rfl, Nat.le_of_ble_eq_true rfl⟩) X0_blind (fun _ _ _ => trivial) hP hK hD hS hA hl [0, 1, 2, 3, 4, 5] rfl rfl 0 7 rfl rfl rfl rfl rfl (Nat.le_of_ble_eq_true rfl) dX9_count_73 ⟨Nat.zero_le _, Nat.zero_le _⟩ (fun _ => rfl) (fun u_ H locs hk2 hP hD hS => ?_)
    obtain ⟨r_2, e_r_2⟩ : ∃ z, z = u_ := ⟨_, rfl⟩
    subst e_r_2
    have hP : va_P D vwCl [(o, .inr (7, [.ref q1, .ref q2, .ref q3, .int st, .ref q4, .int ln, .int ps, .int (bi fm), .int rs, .ref q5])), (q1, .inl (cI, 314, .inl S)), (q2, .inl (cI, 314, .inl Bg)), (q3, .inl (cI, 1256, .inl Pa)), (q4, .inl (cI, 80, .inl Tx)), (q5, .inl (cI, 5, .inl Nu))] H := hP
    have hD : va_D Fr [(o, .inr (7, [.ref q1, .ref q2, .ref q3, .int st, .ref q4, .int ln, .int ps, .int (bi fm), .int rs, .ref q5])), (q1, .inl (cI, 314, .inl S)), (q2, .inl (cI, 314, .inl Bg)), (q3, .inl (cI, 1256, .inl Pa)), (q4, .inl (cI, 80, .inl Tx)), (q5, .inl (cI, 5, .inl Nu))] := hD
    refine W.eq (g2 := F0 m 76 ls [.int r_2]) rfl ?_
    refine lv_aload_n hx hb dX9_count_76 rfl (lv_at hl 0 rfl) ?_
    refine lv_iconst (v := 1) hx hb dX9_count_77 (by decide) ?_
    refine callVi (As := [.int 1]) (rest := [.int r_2]) (mX9_wantedIn l D cI cC cS _ o q1 q2 q3 q4 q5 S Bg Pa Tx Nu st ln ps fm rs 1 (vp_d rfl)) ⟨hx, hb, hml, hown, hts⟩ (cwV 1 hts gX9_count_X9_wantedIn rfl rfl rfl (by decide +kernel) ⟨Nat.le_of_ble_eq_true rfl, Nat.le_of_ble_eq_true rfl⟩) X0_blind (fun _ _ _ => trivial) hP hK hD hS hA hl [0, 1, 2, 3, 4, 5] rfl rfl 0 7 rfl rfl rfl rfl rfl (Nat.le_of_ble_eq_true rfl) dX9_count_78 ⟨Nat.zero_le _, Nat.zero_le _⟩ (fun _ => rfl) (fun u_ H locs hk4 hP hD hS => ?_)
    obtain ⟨r_4, e_r_4⟩ : ∃ z, z = u_ := ⟨_, rfl⟩
    subst e_r_4
    have hP : va_P D vwCl [(o, .inr (7, [.ref q1, .ref q2, .ref q3, .int st, .ref q4, .int ln, .int ps, .int (bi fm), .int rs, .ref q5])), (q1, .inl (cI, 314, .inl S)), (q2, .inl (cI, 314, .inl Bg)), (q3, .inl (cI, 1256, .inl Pa)), (q4, .inl (cI, 80, .inl Tx)), (q5, .inl (cI, 5, .inl Nu))] H := hP
    have hD : va_D Fr [(o, .inr (7, [.ref q1, .ref q2, .ref q3, .int st, .ref q4, .int ln, .int ps, .int (bi fm), .int rs, .ref q5])), (q1, .inl (cI, 314, .inl S)), (q2, .inl (cI, 314, .inl Bg)), (q3, .inl (cI, 1256, .inl Pa)), (q4, .inl (cI, 80, .inl Tx)), (q5, .inl (cI, 5, .inl Nu))] := hD
    refine W.eq (g2 := F0 m 81 ls [.int r_4, .int r_2]) rfl ?_
    refine lv_iadd hx hb dX9_count_81 ?_
    refine lv_aload_n hx hb dX9_count_82 rfl (lv_at hl 0 rfl) ?_
    refine lv_iconst (v := 2) hx hb dX9_count_83 (by decide) ?_
    refine callVi (As := [.int 2]) (rest := [.int (r_2 + r_4)]) (mX9_wantedIn l D cI cC cS _ o q1 q2 q3 q4 q5 S Bg Pa Tx Nu st ln ps fm rs 2 (vp_d rfl)) ⟨hx, hb, hml, hown, hts⟩ (cwV 1 hts gX9_count_X9_wantedIn rfl rfl rfl (by decide +kernel) ⟨Nat.le_of_ble_eq_true rfl, Nat.le_of_ble_eq_true rfl⟩) X0_blind (fun _ _ _ => trivial) hP hK hD hS hA hl [0, 1, 2, 3, 4, 5] rfl rfl 0 7 rfl rfl rfl rfl rfl (Nat.le_of_ble_eq_true rfl) dX9_count_84 ⟨Nat.zero_le _, Nat.zero_le _⟩ (fun _ => rfl) (fun u_ H locs hk6 hP hD hS => ?_)
    obtain ⟨r_6, e_r_6⟩ : ∃ z, z = u_ := ⟨_, rfl⟩
    subst e_r_6
    have hP : va_P D vwCl [(o, .inr (7, [.ref q1, .ref q2, .ref q3, .int st, .ref q4, .int ln, .int ps, .int (bi fm), .int rs, .ref q5])), (q1, .inl (cI, 314, .inl S)), (q2, .inl (cI, 314, .inl Bg)), (q3, .inl (cI, 1256, .inl Pa)), (q4, .inl (cI, 80, .inl Tx)), (q5, .inl (cI, 5, .inl Nu))] H := hP
    have hD : va_D Fr [(o, .inr (7, [.ref q1, .ref q2, .ref q3, .int st, .ref q4, .int ln, .int ps, .int (bi fm), .int rs, .ref q5])), (q1, .inl (cI, 314, .inl S)), (q2, .inl (cI, 314, .inl Bg)), (q3, .inl (cI, 1256, .inl Pa)), (q4, .inl (cI, 80, .inl Tx)), (q5, .inl (cI, 5, .inl Nu))] := hD
    refine W.eq (g2 := F0 m 87 ls [.int r_6, .int (r_2 + r_4)]) rfl ?_
    refine lv_iadd hx hb dX9_count_87 ?_
    refine lv_aload_n hx hb dX9_count_88 rfl (lv_at hl 0 rfl) ?_
    refine lv_iconst (v := 3) hx hb dX9_count_89 (by decide) ?_
    refine callVi (As := [.int 3]) (rest := [.int ((r_2 + r_4) + r_6)]) (mX9_wantedIn l D cI cC cS _ o q1 q2 q3 q4 q5 S Bg Pa Tx Nu st ln ps fm rs 3 (vp_d rfl)) ⟨hx, hb, hml, hown, hts⟩ (cwV 1 hts gX9_count_X9_wantedIn rfl rfl rfl (by decide +kernel) ⟨Nat.le_of_ble_eq_true rfl, Nat.le_of_ble_eq_true rfl⟩) X0_blind (fun _ _ _ => trivial) hP hK hD hS hA hl [0, 1, 2, 3, 4, 5] rfl rfl 0 7 rfl rfl rfl rfl rfl (Nat.le_of_ble_eq_true rfl) dX9_count_90 ⟨Nat.zero_le _, Nat.zero_le _⟩ (fun _ => rfl) (fun u_ H locs hk8 hP hD hS => ?_)
    obtain ⟨r_8, e_r_8⟩ : ∃ z, z = u_ := ⟨_, rfl⟩
    subst e_r_8
    have hP : va_P D vwCl [(o, .inr (7, [.ref q1, .ref q2, .ref q3, .int st, .ref q4, .int ln, .int ps, .int (bi fm), .int rs, .ref q5])), (q1, .inl (cI, 314, .inl S)), (q2, .inl (cI, 314, .inl Bg)), (q3, .inl (cI, 1256, .inl Pa)), (q4, .inl (cI, 80, .inl Tx)), (q5, .inl (cI, 5, .inl Nu))] H := hP
    have hD : va_D Fr [(o, .inr (7, [.ref q1, .ref q2, .ref q3, .int st, .ref q4, .int ln, .int ps, .int (bi fm), .int rs, .ref q5])), (q1, .inl (cI, 314, .inl S)), (q2, .inl (cI, 314, .inl Bg)), (q3, .inl (cI, 1256, .inl Pa)), (q4, .inl (cI, 80, .inl Tx)), (q5, .inl (cI, 5, .inl Nu))] := hD
    refine W.eq (g2 := F0 m 93 ls [.int r_8, .int ((r_2 + r_4) + r_6)]) rfl ?_
    refine lv_iadd hx hb dX9_count_93 ?_
    exact endI hx hb hr hlk hP hK hD hS dX9_count_94 (((r_2 + r_4) + r_6) + r_8) rfl ⟨(if_neg c1_0).trans ((if_neg c1_1).trans ((if_neg c1_2).trans ((if_neg c1_3).trans ((if_neg c1_4).trans ((if_neg c1_5).trans ((if_pos c1_6).trans ((bd1_e hk2).trans ((bd1_e hk4).trans ((bd1_e hk6).trans ((bd1_e hk8).trans rfl)))))))))), rfl⟩
  by_cases c1_7 : what = 7
  · refine lv_tableIn (tgt := 95) hx hb dX9_count_1 (by rw [c1_7]; decide) (by rw [c1_7]; decide) (by rw [c1_7]; rfl) (by decide) ?_
    refine lv_aload_n hx hb dX9_count_95 rfl (lv_at hl 0 rfl) ?_
    refine callVi (As := []) (rest := []) (mX9_appointments l D cI cC cS _ o q1 q2 q3 q4 q5 S Bg Pa Tx Nu st ln ps fm rs ho.1) ⟨hx, hb, hml, hown, hts⟩ (cwV 0 hts gX9_count_X9_appointments rfl rfl rfl (by decide +kernel) ⟨Nat.le_of_ble_eq_true rfl, Nat.le_of_ble_eq_true rfl⟩) X0_blind (fun _ _ _ => trivial) hP hK hD hS hA hl [0, 1, 2, 3, 4, 5] rfl rfl 0 7 rfl rfl rfl rfl rfl (Nat.le_of_ble_eq_true rfl) dX9_count_96 ⟨Nat.zero_le _, Nat.zero_le _⟩ (fun _ => rfl) (fun u_ H locs hk10 hP hD hS => ?_)
    obtain ⟨r_10, e_r_10⟩ : ∃ z, z = u_ := ⟨_, rfl⟩
    subst e_r_10
    have hP : va_P D vwCl [(o, .inr (7, [.ref q1, .ref q2, .ref q3, .int st, .ref q4, .int ln, .int ps, .int (bi fm), .int rs, .ref q5])), (q1, .inl (cI, 314, .inl S)), (q2, .inl (cI, 314, .inl Bg)), (q3, .inl (cI, 1256, .inl Pa)), (q4, .inl (cI, 80, .inl Tx)), (q5, .inl (cI, 5, .inl Nu))] H := hP
    have hD : va_D Fr [(o, .inr (7, [.ref q1, .ref q2, .ref q3, .int st, .ref q4, .int ln, .int ps, .int (bi fm), .int rs, .ref q5])), (q1, .inl (cI, 314, .inl S)), (q2, .inl (cI, 314, .inl Bg)), (q3, .inl (cI, 1256, .inl Pa)), (q4, .inl (cI, 80, .inl Tx)), (q5, .inl (cI, 5, .inl Nu))] := hD
    refine W.eq (g2 := F0 m 99 ls [.int r_10]) rfl ?_
    exact endI hx hb hr hlk hP hK hD hS dX9_count_99 r_10 rfl ⟨(if_neg c1_0).trans ((if_neg c1_1).trans ((if_neg c1_2).trans ((if_neg c1_3).trans ((if_neg c1_4).trans ((if_neg c1_5).trans ((if_neg c1_6).trans ((if_pos c1_7).trans ((bd1_e hk10).trans rfl)))))))), rfl⟩
  by_cases c1_8 : what = 8
  · refine lv_tableIn (tgt := 100) hx hb dX9_count_1 (by rw [c1_8]; decide) (by rw [c1_8]; decide) (by rw [c1_8]; rfl) (by decide) ?_
    refine lv_aload_n hx hb dX9_count_100 rfl (lv_at hl 0 rfl) ?_
    refine va_get (D := D) (ci := 7) (C := RX9) (T := TX9) (N := 10) hx hb hts w_2 hown hK hP 0 rfl rfl 3 (by decide) w_3 (fun _ h9 => h9) rfl dX9_count_101 ?_
    exact endI hx hb hr hlk hP hK hD hS dX9_count_104 st rfl ⟨(if_neg c1_0).trans ((if_neg c1_1).trans ((if_neg c1_2).trans ((if_neg c1_3).trans ((if_neg c1_4).trans ((if_neg c1_5).trans ((if_neg c1_6).trans ((if_neg c1_7).trans ((if_pos c1_8).trans rfl)))))))), rfl⟩
  by_cases c1_9 : what = 9
  · refine lv_tableIn (tgt := 105) hx hb dX9_count_1 (by rw [c1_9]; decide) (by rw [c1_9]; decide) (by rw [c1_9]; rfl) (by decide) ?_
    refine lv_aload_n hx hb dX9_count_105 rfl (lv_at hl 0 rfl) ?_
    refine va_get (D := D) (ci := 7) (C := RX9) (T := TX9) (N := 10) hx hb hts w_2 hown hK hP 0 rfl rfl 5 (by decide) w_4 (fun _ h9 => h9) rfl dX9_count_106 ?_
    exact endI hx hb hr hlk hP hK hD hS dX9_count_109 ln rfl ⟨(if_neg c1_0).trans ((if_neg c1_1).trans ((if_neg c1_2).trans ((if_neg c1_3).trans ((if_neg c1_4).trans ((if_neg c1_5).trans ((if_neg c1_6).trans ((if_neg c1_7).trans ((if_neg c1_8).trans ((if_pos c1_9).trans rfl))))))))), rfl⟩
  by_cases c1_10 : what = 10
  · refine lv_tableIn (tgt := 110) hx hb dX9_count_1 (by rw [c1_10]; decide) (by rw [c1_10]; decide) (by rw [c1_10]; rfl) (by decide) ?_
    refine lv_aload_n hx hb dX9_count_110 rfl (lv_at hl 0 rfl) ?_
    refine va_get (D := D) (ci := 7) (C := RX9) (T := TX9) (N := 10) hx hb hts w_2 hown hK hP 0 rfl rfl 0 (by decide) w_1 (fun _ h9 => h9) rfl dX9_count_111 ?_
    refine lv_bipush (v := 6) hx hb dX9_count_114 (by decide) ?_
    refine lv_iload_n hx hb dX9_count_116 rfl (lv_at hl 1 rfl) ?_
    refine lv_iadd hx hb dX9_count_117 ?_
    refine lv_bipush (v := 10) hx hb dX9_count_118 (by decide) ?_
    refine lv_isub hx hb dX9_count_120 ?_
    refine va_iald hx hb hK hP 1 0 rfl rfl (by first | (rw [c1_10]; exact vp_d rfl) | (rw [c1_11]; exact vp_d rfl)) dX9_count_121 ?_
    exact endI hx hb hr hlk hP hK hD hS dX9_count_122 (S ((6 + what) - 10).toNatClampNeg) rfl ⟨(if_neg c1_0).trans ((if_neg c1_1).trans ((if_neg c1_2).trans ((if_neg c1_3).trans ((if_neg c1_4).trans ((if_neg c1_5).trans ((if_neg c1_6).trans ((if_neg c1_7).trans ((if_neg c1_8).trans ((if_neg c1_9).trans ((if_pos c1_10).trans rfl)))))))))), rfl⟩
  by_cases c1_11 : what = 11
  · refine lv_tableIn (tgt := 110) hx hb dX9_count_1 (by rw [c1_11]; decide) (by rw [c1_11]; decide) (by rw [c1_11]; rfl) (by decide) ?_
    refine lv_aload_n hx hb dX9_count_110 rfl (lv_at hl 0 rfl) ?_
    refine va_get (D := D) (ci := 7) (C := RX9) (T := TX9) (N := 10) hx hb hts w_2 hown hK hP 0 rfl rfl 0 (by decide) w_1 (fun _ h9 => h9) rfl dX9_count_111 ?_
    refine lv_bipush (v := 6) hx hb dX9_count_114 (by decide) ?_
    refine lv_iload_n hx hb dX9_count_116 rfl (lv_at hl 1 rfl) ?_
    refine lv_iadd hx hb dX9_count_117 ?_
    refine lv_bipush (v := 10) hx hb dX9_count_118 (by decide) ?_
    refine lv_isub hx hb dX9_count_120 ?_
    refine va_iald hx hb hK hP 1 0 rfl rfl (by first | (rw [c1_10]; exact vp_d rfl) | (rw [c1_11]; exact vp_d rfl)) dX9_count_121 ?_
    exact endI hx hb hr hlk hP hK hD hS dX9_count_122 (S ((6 + what) - 10).toNatClampNeg) rfl ⟨(if_neg c1_0).trans ((if_neg c1_1).trans ((if_neg c1_2).trans ((if_neg c1_3).trans ((if_neg c1_4).trans ((if_neg c1_5).trans ((if_neg c1_6).trans ((if_neg c1_7).trans ((if_neg c1_8).trans ((if_neg c1_9).trans ((if_neg c1_10).trans ((if_pos c1_11).trans rfl))))))))))), rfl⟩
  refine lv_tableOut (tgt := 123) hx hb dX9_count_1 (tab_out (lo := 0) (hi := 11) (by decide) (fun k kk1 kk2 => ?_)) (by decide) ?_
  · rcases (show k = 0 ∨ k = 1 ∨ k = 2 ∨ k = 3 ∨ k = 4 ∨ k = 5 ∨ k = 6 ∨ k = 7 ∨ k = 8 ∨ k = 9 ∨ k = 10 ∨ k = 11 by omega) with rfl | rfl | rfl | rfl | rfl | rfl | rfl | rfl | rfl | rfl | rfl | rfl
    · exact ne_ti c1_0 (by decide)
    · exact ne_ti c1_1 (by decide)
    · exact ne_ti c1_2 (by decide)
    · exact ne_ti c1_3 (by decide)
    · exact ne_ti c1_4 (by decide)
    · exact ne_ti c1_5 (by decide)
    · exact ne_ti c1_6 (by decide)
    · exact ne_ti c1_7 (by decide)
    · exact ne_ti c1_8 (by decide)
    · exact ne_ti c1_9 (by decide)
    · exact ne_ti c1_10 (by decide)
    · exact ne_ti c1_11 (by decide)
  refine lv_iconst (v := (-1)) hx hb dX9_count_123 (by decide) ?_
  exact endI hx hb hr hlk hP hK hD hS dX9_count_124 (-1) rfl ⟨(if_neg c1_0).trans ((if_neg c1_1).trans ((if_neg c1_2).trans ((if_neg c1_3).trans ((if_neg c1_4).trans ((if_neg c1_5).trans ((if_neg c1_6).trans ((if_neg c1_7).trans ((if_neg c1_8).trans ((if_neg c1_9).trans ((if_neg c1_10).trans ((if_neg c1_11).trans rfl))))))))))), rfl⟩


/-- the value of X9_interviewerOf, path by path -/
def fX9_interviewerOf (S : Nat → Int32) (interviewer : Int32) (what : Int32) : Int32 :=
  bd1 (fX9_isStaff S interviewer) (fun (r_2 : Bool) => (if r_2 = true then bd1 (fX9_in what 0 5) (fun (r_4 : Bool) => (if r_4 = true then bd1 (fX9_ofWho S interviewer what) (fun (r_6 : Int32) => r_6) else (-1))) else (-1)))

set_option maxHeartbeats 4000000 in
set_option maxRecDepth 100000 in
/-- X9_interviewerOf -/
theorem mX9_interviewerOf (l : Launch) (D : va_G) (cI cC cS : ClassId) (sz : Nat) (o : Nat) (q1 : Nat) (q2 : Nat) (q3 : Nat) (q4 : Nat) (q5 : Nat) (S : Nat → Int32) (Bg : Nat → Int32) (Pa : Nat → Int32) (Tx : Nat → Int32) (Nu : Nat → Int32) (st : Int32) (ln : Int32) (ps : Int32) (fm : Bool) (rs : Int32) (interviewer : Int32) (what : Int32) (ho : okS S) : Met l yX9_interviewerOf wsX9_interviewerOf ({ frames := 2, cells := 0, slots := 0, locals := 43 } : Jvm.Room) (va_Pc [.ref o, .int interviewer, .int what] (wPre D (TY cI cC cS) [(o, .inr (7, [.ref q1, .ref q2, .ref q3, .int st, .ref q4, .int ln, .int ps, .int (bi fm), .int rs, .ref q5])), (q1, .inl (cI, 314, .inl S)), (q2, .inl (cI, 314, .inl Bg)), (q3, .inl (cI, 1256, .inl Pa)), (q4, .inl (cI, 80, .inl Tx)), (q5, .inl (cI, 5, .inl Nu))] sz X0)) (qI D (TY cI cC cS) (fun (r : Int32) (u : Int32) => fX9_interviewerOf S interviewer what = u ∧ r = u) (fun u => [(o, .inr (7, [.ref q1, .ref q2, .ref q3, .int st, .ref q4, .int ln, .int ps, .int (bi fm), .int rs, .ref q5])), (q1, .inl (cI, 314, .inl S)), (q2, .inl (cI, 314, .inl Bg)), (q3, .inl (cI, 1256, .inl Pa)), (q4, .inl (cI, 80, .inl Tx)), (q5, .inl (cI, 5, .inl Nu))]) (va_A [(o, .inr (7, [.ref q1, .ref q2, .ref q3, .int st, .ref q4, .int ln, .int ps, .int (bi fm), .int rs, .ref q5])), (q1, .inl (cI, 314, .inl S)), (q2, .inl (cI, 314, .inl Bg)), (q3, .inl (cI, 1256, .inl Pa)), (q4, .inl (cI, 80, .inl Tx)), (q5, .inl (cI, 5, .inl Nu))] sz)) 0 0 (va_A [(o, .inr (7, [.ref q1, .ref q2, .ref q3, .int st, .ref q4, .int ln, .int ps, .int (bi fm), .int rs, .ref q5])), (q1, .inl (cI, 314, .inl S)), (q2, .inl (cI, 314, .inl Bg)), (q3, .inl (cI, 1256, .inl Pa)), (q4, .inl (cI, 80, .inl Tx)), (q5, .inl (cI, 5, .inl Nu))] sz) := by
  refine mkM (fun Fr => qI D (TY cI cC cS) (fun (r : Int32) (u : Int32) => fX9_interviewerOf S interviewer what = u ∧ r = u) (fun u => [(o, .inr (7, [.ref q1, .ref q2, .ref q3, .int st, .ref q4, .int ln, .int ps, .int (bi fm), .int rs, .ref q5])), (q1, .inl (cI, 314, .inl S)), (q2, .inl (cI, 314, .inl Bg)), (q3, .inl (cI, 1256, .inl Pa)), (q4, .inl (cI, 80, .inl Tx)), (q5, .inl (cI, 5, .inl Nu))]) Fr) (cc := cX9_interviewerOf) (maxL := 3) (ret := (some .int)) (own := RX9) (lv := [(0, .ref o), (1, .int interviewer), (2, .int what)]) (by decide) rfl rfl (Nat.le_of_ble_eq_true rfl) rfl ?_
  intro p e s m below meth c Fr ls hx hb hr hts hown hml hlk hin hP hK hD hS hA hAe hsz hX hl
  refine lv_aload_n hx hb dX9_interviewerOf_0 rfl (lv_at hl 0 rfl) ?_
  refine lv_iload_n hx hb dX9_interviewerOf_1 rfl (lv_at hl 1 rfl) ?_
  refine callVi (As := [.int interviewer]) (rest := []) (mX9_isStaff l D cI cC cS _ o q1 q2 q3 q4 q5 S Bg Pa Tx Nu st ln ps fm rs interviewer) ⟨hx, hb, hml, hown, hts⟩ (cwV 1 hts gX9_interviewerOf_X9_isStaff rfl rfl rfl (by decide +kernel) ⟨Nat.le_of_ble_eq_true rfl, Nat.le_of_ble_eq_true rfl⟩) X0_blind (fun _ _ _ => trivial) hP hK hD hS hA hl [0, 1, 2, 3, 4, 5] rfl rfl 0 7 rfl rfl rfl rfl rfl (Nat.le_of_ble_eq_true rfl) dX9_interviewerOf_2 ⟨Nat.zero_le _, Nat.zero_le _⟩ (fun _ => rfl) (fun u_ H locs hk2 hP hD hS => ?_)
  obtain ⟨r_2, e_r_2⟩ : ∃ z, z = u_ := ⟨_, rfl⟩
  subst e_r_2
  have hP : va_P D vwCl [(o, .inr (7, [.ref q1, .ref q2, .ref q3, .int st, .ref q4, .int ln, .int ps, .int (bi fm), .int rs, .ref q5])), (q1, .inl (cI, 314, .inl S)), (q2, .inl (cI, 314, .inl Bg)), (q3, .inl (cI, 1256, .inl Pa)), (q4, .inl (cI, 80, .inl Tx)), (q5, .inl (cI, 5, .inl Nu))] H := hP
  have hD : va_D Fr [(o, .inr (7, [.ref q1, .ref q2, .ref q3, .int st, .ref q4, .int ln, .int ps, .int (bi fm), .int rs, .ref q5])), (q1, .inl (cI, 314, .inl S)), (q2, .inl (cI, 314, .inl Bg)), (q3, .inl (cI, 1256, .inl Pa)), (q4, .inl (cI, 80, .inl Tx)), (q5, .inl (cI, 5, .inl Nu))] := hD
  refine W.eq (g2 := F0 m 5 ls [.int (bi r_2)]) rfl ?_
  refine lv_if_eq (tgt := 26) hx hb dX9_interviewerOf_5 (by decide) (fun c5 => ?_) (fun c5 => ?_)
  · refine lv_iconst (v := (-1)) hx hb dX9_interviewerOf_26 (by decide) ?_
    exact endI hx hb hr hlk hP hK hD hS dX9_interviewerOf_27 (-1) rfl ⟨(bd1_e hk2).trans ((if_neg (bi_z c5)).trans rfl), rfl⟩
  · refine lv_iload_n hx hb dX9_interviewerOf_8 rfl (lv_at hl 2 rfl) ?_
    refine lv_iconst (v := 0) hx hb dX9_interviewerOf_9 (by decide) ?_
    refine lv_iconst (v := 5) hx hb dX9_interviewerOf_10 (by decide) ?_
    refine callSi (As := [.int what, .int 0, .int 5]) (rest := []) (mX9_in l D cI cC cS _ what 0 5) ⟨hx, hb, hml, hown, hts⟩ (va_cwS 3 hts gX9_interviewerOf_X9_in rfl rfl rfl (by decide +kernel) ⟨Nat.le_of_ble_eq_true rfl, Nat.le_of_ble_eq_true rfl⟩) hP hK hD hS hA hl rfl rfl (Nat.le_of_ble_eq_true rfl) dX9_interviewerOf_11 ⟨Nat.zero_le _, Nat.zero_le _⟩ (fun u_ H locs hk4 hP hS => ?_)
    obtain ⟨r_4, e_r_4⟩ : ∃ z, z = u_ := ⟨_, rfl⟩
    subst e_r_4
    refine W.eq (g2 := F0 m 14 ls [.int (bi r_4)]) rfl ?_
    refine lv_if_eq (tgt := 26) hx hb dX9_interviewerOf_14 (by decide) (fun c14 => ?_) (fun c14 => ?_)
    · refine lv_iconst (v := (-1)) hx hb dX9_interviewerOf_26 (by decide) ?_
      exact endI hx hb hr hlk hP hK hD hS dX9_interviewerOf_27 (-1) rfl ⟨(bd1_e hk2).trans ((if_pos (bi_o c5)).trans ((bd1_e hk4).trans ((if_neg (bi_z c14)).trans rfl))), rfl⟩
    · refine lv_aload_n hx hb dX9_interviewerOf_17 rfl (lv_at hl 0 rfl) ?_
      refine lv_iload_n hx hb dX9_interviewerOf_18 rfl (lv_at hl 1 rfl) ?_
      refine lv_iload_n hx hb dX9_interviewerOf_19 rfl (lv_at hl 2 rfl) ?_
      refine callVi (As := [.int interviewer, .int what]) (rest := []) (mX9_ofWho l D cI cC cS _ o q1 q2 q3 q4 q5 S Bg Pa Tx Nu st ln ps fm rs interviewer what (st_of (hk2.trans (bi_o c5)) ho.2.1) (in_of (hk4.trans (bi_o c14)) (by decide) (by decide))) ⟨hx, hb, hml, hown, hts⟩ (cwV 2 hts gX9_interviewerOf_X9_ofWho rfl rfl rfl (by decide +kernel) ⟨Nat.le_of_ble_eq_true rfl, Nat.le_of_ble_eq_true rfl⟩) X0_blind (fun _ _ _ => trivial) hP hK hD hS hA hl [0, 1, 2, 3, 4, 5] rfl rfl 0 7 rfl rfl rfl rfl rfl (Nat.le_of_ble_eq_true rfl) dX9_interviewerOf_20 ⟨Nat.zero_le _, Nat.zero_le _⟩ (fun _ => rfl) (fun u_ H locs hk6 hP hD hS => ?_)
      obtain ⟨r_6, e_r_6⟩ : ∃ z, z = u_ := ⟨_, rfl⟩
      subst e_r_6
      have hP : va_P D vwCl [(o, .inr (7, [.ref q1, .ref q2, .ref q3, .int st, .ref q4, .int ln, .int ps, .int (bi fm), .int rs, .ref q5])), (q1, .inl (cI, 314, .inl S)), (q2, .inl (cI, 314, .inl Bg)), (q3, .inl (cI, 1256, .inl Pa)), (q4, .inl (cI, 80, .inl Tx)), (q5, .inl (cI, 5, .inl Nu))] H := hP
      have hD : va_D Fr [(o, .inr (7, [.ref q1, .ref q2, .ref q3, .int st, .ref q4, .int ln, .int ps, .int (bi fm), .int rs, .ref q5])), (q1, .inl (cI, 314, .inl S)), (q2, .inl (cI, 314, .inl Bg)), (q3, .inl (cI, 1256, .inl Pa)), (q4, .inl (cI, 80, .inl Tx)), (q5, .inl (cI, 5, .inl Nu))] := hD
      refine W.eq (g2 := F0 m 23 ls [.int r_6]) rfl ?_
      refine lv_goto (tgt := 27) hx hb dX9_interviewerOf_23 (by decide) ?_
      exact endI hx hb hr hlk hP hK hD hS dX9_interviewerOf_27 r_6 rfl ⟨(bd1_e hk2).trans ((if_pos (bi_o c5)).trans ((bd1_e hk4).trans ((if_pos (bi_o c14)).trans ((bd1_e hk6).trans rfl)))), rfl⟩


/-- X9_addressOf from 91 on -/
def fX9_addressOf_91 (S : Nat → Int32) (address : Int32) (what : Int32) (b : Bool) : Int32 :=
  (if b = true then bd1 (fX9_of S address what) (fun (r_6 : Int32) => (if what = 6 then r_6 - 1 else r_6 - 0)) else (-4))

/-- the value of X9_addressOf, path by path -/
def fX9_addressOf (S : Nat → Int32) (address : Int32) (what : Int32) : Int32 :=
  bd1 (fX9_isAddress S address) (fun (r_2 : Bool) => (if r_2 = true then bd1 (fX9_in what 0 9) (fun (r_4 : Bool) => (if r_4 = true then (if what < 4 then fX9_addressOf_91 S address what true else (if what = 4 then bd1 (fX9_of S address 2) (fun (r_8 : Int32) => (if (0 : Int32) < r_8 then fX9_addressOf_91 S address what true else (if what = 6 then bd1 (fX9_isFixed S address) (fun (r_10 : Bool) => (if r_10 = true then fX9_addressOf_91 S address what true else (if what = 8 then bd1 (fX9_of S address 1) (fun (r_12 : Int32) => (if r_12 = 1 then fX9_addressOf_91 S address what true else fX9_addressOf_91 S address what false)) else fX9_addressOf_91 S address what false))) else (if what = 7 then bd1 (fX9_isFixed S address) (fun (r_16 : Bool) => (if r_16 = true then fX9_addressOf_91 S address what true else (if what = 8 then bd1 (fX9_of S address 1) (fun (r_18 : Int32) => (if r_18 = 1 then fX9_addressOf_91 S address what true else fX9_addressOf_91 S address what false)) else fX9_addressOf_91 S address what false))) else (if what = 8 then bd1 (fX9_of S address 1) (fun (r_14 : Int32) => (if r_14 = 1 then fX9_addressOf_91 S address what true else fX9_addressOf_91 S address what false)) else fX9_addressOf_91 S address what false))))) else (if what = 5 then bd1 (fX9_of S address 2) (fun (r_20 : Int32) => (if (0 : Int32) < r_20 then fX9_addressOf_91 S address what true else (if what = 6 then bd1 (fX9_isFixed S address) (fun (r_22 : Bool) => (if r_22 = true then fX9_addressOf_91 S address what true else (if what = 8 then bd1 (fX9_of S address 1) (fun (r_24 : Int32) => (if r_24 = 1 then fX9_addressOf_91 S address what true else fX9_addressOf_91 S address what false)) else fX9_addressOf_91 S address what false))) else (if what = 7 then bd1 (fX9_isFixed S address) (fun (r_28 : Bool) => (if r_28 = true then fX9_addressOf_91 S address what true else (if what = 8 then bd1 (fX9_of S address 1) (fun (r_30 : Int32) => (if r_30 = 1 then fX9_addressOf_91 S address what true else fX9_addressOf_91 S address what false)) else fX9_addressOf_91 S address what false))) else (if what = 8 then bd1 (fX9_of S address 1) (fun (r_26 : Int32) => (if r_26 = 1 then fX9_addressOf_91 S address what true else fX9_addressOf_91 S address what false)) else fX9_addressOf_91 S address what false))))) else (if what = 9 then bd1 (fX9_of S address 2) (fun (r_42 : Int32) => (if (0 : Int32) < r_42 then fX9_addressOf_91 S address what true else (if what = 6 then bd1 (fX9_isFixed S address) (fun (r_44 : Bool) => (if r_44 = true then fX9_addressOf_91 S address what true else (if what = 8 then bd1 (fX9_of S address 1) (fun (r_46 : Int32) => (if r_46 = 1 then fX9_addressOf_91 S address what true else fX9_addressOf_91 S address what false)) else fX9_addressOf_91 S address what false))) else (if what = 7 then bd1 (fX9_isFixed S address) (fun (r_50 : Bool) => (if r_50 = true then fX9_addressOf_91 S address what true else (if what = 8 then bd1 (fX9_of S address 1) (fun (r_52 : Int32) => (if r_52 = 1 then fX9_addressOf_91 S address what true else fX9_addressOf_91 S address what false)) else fX9_addressOf_91 S address what false))) else (if what = 8 then bd1 (fX9_of S address 1) (fun (r_48 : Int32) => (if r_48 = 1 then fX9_addressOf_91 S address what true else fX9_addressOf_91 S address what false)) else fX9_addressOf_91 S address what false))))) else (if what = 6 then bd1 (fX9_isFixed S address) (fun (r_32 : Bool) => (if r_32 = true then fX9_addressOf_91 S address what true else (if what = 8 then bd1 (fX9_of S address 1) (fun (r_34 : Int32) => (if r_34 = 1 then fX9_addressOf_91 S address what true else fX9_addressOf_91 S address what false)) else fX9_addressOf_91 S address what false))) else (if what = 7 then bd1 (fX9_isFixed S address) (fun (r_38 : Bool) => (if r_38 = true then fX9_addressOf_91 S address what true else (if what = 8 then bd1 (fX9_of S address 1) (fun (r_40 : Int32) => (if r_40 = 1 then fX9_addressOf_91 S address what true else fX9_addressOf_91 S address what false)) else fX9_addressOf_91 S address what false))) else (if what = 8 then bd1 (fX9_of S address 1) (fun (r_36 : Int32) => (if r_36 = 1 then fX9_addressOf_91 S address what true else fX9_addressOf_91 S address what false)) else fX9_addressOf_91 S address what false))))))) else (-1))) else (-1)))

set_option maxHeartbeats 4000000 in
set_option maxRecDepth 100000 in
/-- X9_addressOf -/
theorem mX9_addressOf (l : Launch) (D : va_G) (cI cC cS : ClassId) (sz : Nat) (o : Nat) (q1 : Nat) (q2 : Nat) (q3 : Nat) (q4 : Nat) (q5 : Nat) (S : Nat → Int32) (Bg : Nat → Int32) (Pa : Nat → Int32) (Tx : Nat → Int32) (Nu : Nat → Int32) (st : Int32) (ln : Int32) (ps : Int32) (fm : Bool) (rs : Int32) (address : Int32) (what : Int32) (ho : okS S) : Met l yX9_addressOf wsX9_addressOf ({ frames := 3, cells := 0, slots := 0, locals := 64 } : Jvm.Room) (va_Pc [.ref o, .int address, .int what] (wPre D (TY cI cC cS) [(o, .inr (7, [.ref q1, .ref q2, .ref q3, .int st, .ref q4, .int ln, .int ps, .int (bi fm), .int rs, .ref q5])), (q1, .inl (cI, 314, .inl S)), (q2, .inl (cI, 314, .inl Bg)), (q3, .inl (cI, 1256, .inl Pa)), (q4, .inl (cI, 80, .inl Tx)), (q5, .inl (cI, 5, .inl Nu))] sz X0)) (qI D (TY cI cC cS) (fun (r : Int32) (u : Int32) => fX9_addressOf S address what = u ∧ r = u) (fun u => [(o, .inr (7, [.ref q1, .ref q2, .ref q3, .int st, .ref q4, .int ln, .int ps, .int (bi fm), .int rs, .ref q5])), (q1, .inl (cI, 314, .inl S)), (q2, .inl (cI, 314, .inl Bg)), (q3, .inl (cI, 1256, .inl Pa)), (q4, .inl (cI, 80, .inl Tx)), (q5, .inl (cI, 5, .inl Nu))]) (va_A [(o, .inr (7, [.ref q1, .ref q2, .ref q3, .int st, .ref q4, .int ln, .int ps, .int (bi fm), .int rs, .ref q5])), (q1, .inl (cI, 314, .inl S)), (q2, .inl (cI, 314, .inl Bg)), (q3, .inl (cI, 1256, .inl Pa)), (q4, .inl (cI, 80, .inl Tx)), (q5, .inl (cI, 5, .inl Nu))] sz)) 0 0 (va_A [(o, .inr (7, [.ref q1, .ref q2, .ref q3, .int st, .ref q4, .int ln, .int ps, .int (bi fm), .int rs, .ref q5])), (q1, .inl (cI, 314, .inl S)), (q2, .inl (cI, 314, .inl Bg)), (q3, .inl (cI, 1256, .inl Pa)), (q4, .inl (cI, 80, .inl Tx)), (q5, .inl (cI, 5, .inl Nu))] sz) := by
  refine mkM (fun Fr => qI D (TY cI cC cS) (fun (r : Int32) (u : Int32) => fX9_addressOf S address what = u ∧ r = u) (fun u => [(o, .inr (7, [.ref q1, .ref q2, .ref q3, .int st, .ref q4, .int ln, .int ps, .int (bi fm), .int rs, .ref q5])), (q1, .inl (cI, 314, .inl S)), (q2, .inl (cI, 314, .inl Bg)), (q3, .inl (cI, 1256, .inl Pa)), (q4, .inl (cI, 80, .inl Tx)), (q5, .inl (cI, 5, .inl Nu))]) Fr) (cc := cX9_addressOf) (maxL := 4) (ret := (some .int)) (own := RX9) (lv := [(0, .ref o), (1, .int address), (2, .int what)]) (by decide) rfl rfl (Nat.le_of_ble_eq_true rfl) rfl ?_
  intro p e s m below meth c Fr ls hx hb hr hts hown hml hlk hin hP hK hD hS hA hAe hsz hX hl
  refine lv_aload_n hx hb dX9_addressOf_0 rfl (lv_at hl 0 rfl) ?_
  refine lv_iload_n hx hb dX9_addressOf_1 rfl (lv_at hl 1 rfl) ?_
  refine callVi (As := [.int address]) (rest := []) (mX9_isAddress l D cI cC cS _ o q1 q2 q3 q4 q5 S Bg Pa Tx Nu st ln ps fm rs address) ⟨hx, hb, hml, hown, hts⟩ (cwV 1 hts gX9_addressOf_X9_isAddress rfl rfl rfl (by decide +kernel) ⟨Nat.le_of_ble_eq_true rfl, Nat.le_of_ble_eq_true rfl⟩) X0_blind (fun _ _ _ => trivial) hP hK hD hS hA hl [0, 1, 2, 3, 4, 5] rfl rfl 0 7 rfl rfl rfl rfl rfl (Nat.le_of_ble_eq_true rfl) dX9_addressOf_2 ⟨Nat.zero_le _, Nat.zero_le _⟩ (fun _ => rfl) (fun u_ H locs hk2 hP hD hS => ?_)
  obtain ⟨r_2, e_r_2⟩ : ∃ z, z = u_ := ⟨_, rfl⟩
  subst e_r_2
  have hP : va_P D vwCl [(o, .inr (7, [.ref q1, .ref q2, .ref q3, .int st, .ref q4, .int ln, .int ps, .int (bi fm), .int rs, .ref q5])), (q1, .inl (cI, 314, .inl S)), (q2, .inl (cI, 314, .inl Bg)), (q3, .inl (cI, 1256, .inl Pa)), (q4, .inl (cI, 80, .inl Tx)), (q5, .inl (cI, 5, .inl Nu))] H := hP
  have hD : va_D Fr [(o, .inr (7, [.ref q1, .ref q2, .ref q3, .int st, .ref q4, .int ln, .int ps, .int (bi fm), .int rs, .ref q5])), (q1, .inl (cI, 314, .inl S)), (q2, .inl (cI, 314, .inl Bg)), (q3, .inl (cI, 1256, .inl Pa)), (q4, .inl (cI, 80, .inl Tx)), (q5, .inl (cI, 5, .inl Nu))] := hD
  refine W.eq (g2 := F0 m 5 ls [.int (bi r_2)]) rfl ?_
  refine lv_if_eq (tgt := 18) hx hb dX9_addressOf_5 (by decide) (fun c5 => ?_) (fun c5 => ?_)
  · refine lv_iconst (v := (-1)) hx hb dX9_addressOf_18 (by decide) ?_
    exact endI hx hb hr hlk hP hK hD hS dX9_addressOf_19 (-1) rfl ⟨(bd1_e hk2).trans ((if_neg (bi_z c5)).trans rfl), rfl⟩
  · refine lv_iload_n hx hb dX9_addressOf_8 rfl (lv_at hl 2 rfl) ?_
    refine lv_iconst (v := 0) hx hb dX9_addressOf_9 (by decide) ?_
    refine lv_bipush (v := 9) hx hb dX9_addressOf_10 (by decide) ?_
    refine callSi (As := [.int what, .int 0, .int 9]) (rest := []) (mX9_in l D cI cC cS _ what 0 9) ⟨hx, hb, hml, hown, hts⟩ (va_cwS 3 hts gX9_addressOf_X9_in rfl rfl rfl (by decide +kernel) ⟨Nat.le_of_ble_eq_true rfl, Nat.le_of_ble_eq_true rfl⟩) hP hK hD hS hA hl rfl rfl (Nat.le_of_ble_eq_true rfl) dX9_addressOf_12 ⟨Nat.zero_le _, Nat.zero_le _⟩ (fun u_ H locs hk4 hP hS => ?_)
    obtain ⟨r_4, e_r_4⟩ : ∃ z, z = u_ := ⟨_, rfl⟩
    subst e_r_4
    refine W.eq (g2 := F0 m 15 ls [.int (bi r_4)]) rfl ?_
    refine lv_if_ne (tgt := 20) hx hb dX9_addressOf_15 (by decide) (fun c15 => ?_) (fun c15 => ?_)
    · have K_91 : ∀ (b : Bool) (H : Heap) (locs : List Loc) (ls : Array Slot), va_P D vwCl [(o, .inr (7, [.ref q1, .ref q2, .ref q3, .int st, .ref q4, .int ln, .int ps, .int (bi fm), .int rs, .ref q5])), (q1, .inl (cI, 314, .inl S)), (q2, .inl (cI, 314, .inl Bg)), (q3, .inl (cI, 1256, .inl Pa)), (q4, .inl (cI, 80, .inl Tx)), (q5, .inl (cI, 5, .inl Nu))] H → va_D Fr [(o, .inr (7, [.ref q1, .ref q2, .ref q3, .int st, .ref q4, .int ln, .int ps, .int (bi fm), .int rs, .ref q5])), (q1, .inl (cI, 314, .inl S)), (q2, .inl (cI, 314, .inl Bg)), (q3, .inl (cI, 1256, .inl Pa)), (q4, .inl (cI, 80, .inl Tx)), (q5, .inl (cI, 5, .inl Nu))] → va_S Fr s.heap H locs → lv_has ls 4 [(0, .ref o), (1, .int address), (2, .int what)] → fX9_addressOf S address what = fX9_addressOf_91 S address what b → W p l e (headSpec wsX9_addressOf ({ frames := 3, cells := 0, slots := 0, locals := 64 } : Jvm.Room)).room s m ([.ref o, .int address, .int what] : List Value).toArray below meth c H locs 0 0 (MQ below (qI D (TY cI cC cS) (fun (r : Int32) (u : Int32) => fX9_addressOf S address what = u ∧ r = u) (fun u => [(o, .inr (7, [.ref q1, .ref q2, .ref q3, .int st, .ref q4, .int ln, .int ps, .int (bi fm), .int rs, .ref q5])), (q1, .inl (cI, 314, .inl S)), (q2, .inl (cI, 314, .inl Bg)), (q3, .inl (cI, 1256, .inl Pa)), (q4, .inl (cI, 80, .inl Tx)), (q5, .inl (cI, 5, .inl Nu))]) Fr) ([.ref o, .int address, .int what] : List Value).toArray s 0 0 Fr) (F0 m 91 ls [.int (bi b)]) := by
        intro b H locs ls hP hD hS hl  E_91
        refine lv_istore_n (lv' := [(3, .int (bi b)), (0, .ref o), (1, .int address), (2, .int what)]) hx hb dX9_addressOf_91 rfl hl (by decide) rfl (fun ls hl => ?_)
        refine lv_iload_n hx hb dX9_addressOf_92 rfl (lv_at hl 0 rfl) ?_
        refine lv_if_ne (tgt := 101) hx hb dX9_addressOf_93 (by decide) (fun c93 => ?_) (fun c93 => ?_)
        · refine lv_aload_n hx hb dX9_addressOf_101 rfl (lv_at hl 1 rfl) ?_
          refine lv_iload_n hx hb dX9_addressOf_102 rfl (lv_at hl 2 rfl) ?_
          refine lv_iload_n hx hb dX9_addressOf_103 rfl (lv_at hl 3 rfl) ?_
          refine callVi (As := [.int address, .int what]) (rest := []) (mX9_of l D cI cC cS _ o q1 q2 q3 q4 q5 S Bg Pa Tx Nu st ln ps fm rs address what (ad_of (hk2.trans (bi_o c5)) ho.1) (in_of (hk4.trans (bi_o c15)) (by decide) (by decide))) ⟨hx, hb, hml, hown, hts⟩ (cwV 2 hts gX9_addressOf_X9_of rfl rfl rfl (by decide +kernel) ⟨Nat.le_of_ble_eq_true rfl, Nat.le_of_ble_eq_true rfl⟩) X0_blind (fun _ _ _ => trivial) hP hK hD hS hA hl [0, 1, 2, 3, 4, 5] rfl rfl 0 7 rfl rfl rfl rfl rfl (Nat.le_of_ble_eq_true rfl) dX9_addressOf_104 ⟨Nat.zero_le _, Nat.zero_le _⟩ (fun _ => rfl) (fun u_ H locs hk6 hP hD hS => ?_)
          obtain ⟨r_6, e_r_6⟩ : ∃ z, z = u_ := ⟨_, rfl⟩
          subst e_r_6
          have hP : va_P D vwCl [(o, .inr (7, [.ref q1, .ref q2, .ref q3, .int st, .ref q4, .int ln, .int ps, .int (bi fm), .int rs, .ref q5])), (q1, .inl (cI, 314, .inl S)), (q2, .inl (cI, 314, .inl Bg)), (q3, .inl (cI, 1256, .inl Pa)), (q4, .inl (cI, 80, .inl Tx)), (q5, .inl (cI, 5, .inl Nu))] H := hP
          have hD : va_D Fr [(o, .inr (7, [.ref q1, .ref q2, .ref q3, .int st, .ref q4, .int ln, .int ps, .int (bi fm), .int rs, .ref q5])), (q1, .inl (cI, 314, .inl S)), (q2, .inl (cI, 314, .inl Bg)), (q3, .inl (cI, 1256, .inl Pa)), (q4, .inl (cI, 80, .inl Tx)), (q5, .inl (cI, 5, .inl Nu))] := hD
          refine W.eq (g2 := F0 m 107 ls [.int r_6]) rfl ?_
          refine lv_iload_n hx hb dX9_addressOf_107 rfl (lv_at hl 3 rfl) ?_
          refine lv_bipush (v := 6) hx hb dX9_addressOf_108 (by decide) ?_
          refine lv_icmp_ne (tgt := 117) hx hb dX9_addressOf_110 (by decide) (fun c110 => ?_) (fun c110 => ?_)
          · refine lv_iconst (v := 0) hx hb dX9_addressOf_117 (by decide) ?_
            refine lv_isub hx hb dX9_addressOf_118 ?_
            exact endI hx hb hr hlk hP hK hD hS dX9_addressOf_119 (r_6 - 0) rfl ⟨(E_91).trans ((if_pos (bi_o c93)).trans ((bd1_e hk6).trans ((if_neg c110).trans rfl))), rfl⟩
          · refine lv_iconst (v := 1) hx hb dX9_addressOf_113 (by decide) ?_
            refine lv_goto (tgt := 118) hx hb dX9_addressOf_114 (by decide) ?_
            refine lv_isub hx hb dX9_addressOf_118 ?_
            exact endI hx hb hr hlk hP hK hD hS dX9_addressOf_119 (r_6 - 1) rfl ⟨(E_91).trans ((if_pos (bi_o c93)).trans ((bd1_e hk6).trans ((if_pos c110).trans rfl))), rfl⟩
        · refine lv_bipush (v := (-4)) hx hb dX9_addressOf_96 (by decide) ?_
          refine lv_goto (tgt := 119) hx hb dX9_addressOf_98 (by decide) ?_
          exact endI hx hb hr hlk hP hK hD hS dX9_addressOf_119 (-4) rfl ⟨(E_91).trans ((if_neg (bi_z c93)).trans rfl), rfl⟩
      refine lv_iload_n hx hb dX9_addressOf_20 rfl (lv_at hl 2 rfl) ?_
      refine lv_iconst (v := 4) hx hb dX9_addressOf_21 (by decide) ?_
      refine lv_icmp_lt (tgt := 86) hx hb dX9_addressOf_22 (by decide) (fun c22 => ?_) (fun c22 => ?_)
      · refine lv_iconst (v := 1) hx hb dX9_addressOf_86 (by decide) ?_
        refine lv_goto (tgt := 91) hx hb dX9_addressOf_87 (by decide) ?_
        exact K_91 true _ _ ls hP hD hS (lv_sub hl [0, 1, 2] rfl) ((bd1_e hk2).trans ((if_pos (bi_o c5)).trans ((bd1_e hk4).trans ((if_pos (bi_o c15)).trans ((if_pos c22).trans rfl)))))
      · refine lv_iload_n hx hb dX9_addressOf_25 rfl (lv_at hl 2 rfl) ?_
        refine lv_iconst (v := 4) hx hb dX9_addressOf_26 (by decide) ?_
        refine lv_icmp_eq (tgt := 41) hx hb dX9_addressOf_27 (by decide) (fun c27 => ?_) (fun c27 => ?_)
        · refine lv_aload_n hx hb dX9_addressOf_41 rfl (lv_at hl 0 rfl) ?_
          refine lv_iload_n hx hb dX9_addressOf_42 rfl (lv_at hl 1 rfl) ?_
          refine lv_iconst (v := 2) hx hb dX9_addressOf_43 (by decide) ?_
          refine callVi (As := [.int address, .int 2]) (rest := []) (mX9_of l D cI cC cS _ o q1 q2 q3 q4 q5 S Bg Pa Tx Nu st ln ps fm rs address 2 (ad_of (hk2.trans (bi_o c5)) ho.1) (vp_d rfl)) ⟨hx, hb, hml, hown, hts⟩ (cwV 2 hts gX9_addressOf_X9_of rfl rfl rfl (by decide +kernel) ⟨Nat.le_of_ble_eq_true rfl, Nat.le_of_ble_eq_true rfl⟩) X0_blind (fun _ _ _ => trivial) hP hK hD hS hA hl [0, 1, 2, 3, 4, 5] rfl rfl 0 7 rfl rfl rfl rfl rfl (Nat.le_of_ble_eq_true rfl) dX9_addressOf_44 ⟨Nat.zero_le _, Nat.zero_le _⟩ (fun _ => rfl) (fun u_ H locs hk8 hP hD hS => ?_)
          obtain ⟨r_8, e_r_8⟩ : ∃ z, z = u_ := ⟨_, rfl⟩
          subst e_r_8
          have hP : va_P D vwCl [(o, .inr (7, [.ref q1, .ref q2, .ref q3, .int st, .ref q4, .int ln, .int ps, .int (bi fm), .int rs, .ref q5])), (q1, .inl (cI, 314, .inl S)), (q2, .inl (cI, 314, .inl Bg)), (q3, .inl (cI, 1256, .inl Pa)), (q4, .inl (cI, 80, .inl Tx)), (q5, .inl (cI, 5, .inl Nu))] H := hP
          have hD : va_D Fr [(o, .inr (7, [.ref q1, .ref q2, .ref q3, .int st, .ref q4, .int ln, .int ps, .int (bi fm), .int rs, .ref q5])), (q1, .inl (cI, 314, .inl S)), (q2, .inl (cI, 314, .inl Bg)), (q3, .inl (cI, 1256, .inl Pa)), (q4, .inl (cI, 80, .inl Tx)), (q5, .inl (cI, 5, .inl Nu))] := hD
          refine W.eq (g2 := F0 m 47 ls [.int r_8]) rfl ?_
          refine lv_if_gt (tgt := 86) hx hb dX9_addressOf_47 (by decide) (fun c47 => ?_) (fun c47 => ?_)
          · refine lv_iconst (v := 1) hx hb dX9_addressOf_86 (by decide) ?_
            refine lv_goto (tgt := 91) hx hb dX9_addressOf_87 (by decide) ?_
            exact K_91 true _ _ ls hP hD hS (lv_sub hl [0, 1, 2] rfl) ((bd1_e hk2).trans ((if_pos (bi_o c5)).trans ((bd1_e hk4).trans ((if_pos (bi_o c15)).trans ((if_neg c22).trans ((if_pos c27).trans ((bd1_e hk8).trans ((if_pos c47).trans rfl))))))))
          · refine lv_iload_n hx hb dX9_addressOf_50 rfl (lv_at hl 2 rfl) ?_
            refine lv_bipush (v := 6) hx hb dX9_addressOf_51 (by decide) ?_
            refine lv_icmp_eq (tgt := 62) hx hb dX9_addressOf_53 (by decide) (fun c53 => ?_) (fun c53 => ?_)
            · refine lv_aload_n hx hb dX9_addressOf_62 rfl (lv_at hl 0 rfl) ?_
              refine lv_iload_n hx hb dX9_addressOf_63 rfl (lv_at hl 1 rfl) ?_
              refine callVi (As := [.int address]) (rest := []) (mX9_isFixed l D cI cC cS _ o q1 q2 q3 q4 q5 S Bg Pa Tx Nu st ln ps fm rs address (ad_of (hk2.trans (bi_o c5)) ho.1)) ⟨hx, hb, hml, hown, hts⟩ (cwV 1 hts gX9_addressOf_X9_isFixed rfl rfl rfl (by decide +kernel) ⟨Nat.le_of_ble_eq_true rfl, Nat.le_of_ble_eq_true rfl⟩) X0_blind (fun _ _ _ => trivial) hP hK hD hS hA hl [0, 1, 2, 3, 4, 5] rfl rfl 0 7 rfl rfl rfl rfl rfl (Nat.le_of_ble_eq_true rfl) dX9_addressOf_64 ⟨Nat.zero_le _, Nat.zero_le _⟩ (fun _ => rfl) (fun u_ H locs hk10 hP hD hS => ?_)
              obtain ⟨r_10, e_r_10⟩ : ∃ z, z = u_ := ⟨_, rfl⟩
              subst e_r_10
              have hP : va_P D vwCl [(o, .inr (7, [.ref q1, .ref q2, .ref q3, .int st, .ref q4, .int ln, .int ps, .int (bi fm), .int rs, .ref q5])), (q1, .inl (cI, 314, .inl S)), (q2, .inl (cI, 314, .inl Bg)), (q3, .inl (cI, 1256, .inl Pa)), (q4, .inl (cI, 80, .inl Tx)), (q5, .inl (cI, 5, .inl Nu))] H := hP
              have hD : va_D Fr [(o, .inr (7, [.ref q1, .ref q2, .ref q3, .int st, .ref q4, .int ln, .int ps, .int (bi fm), .int rs, .ref q5])), (q1, .inl (cI, 314, .inl S)), (q2, .inl (cI, 314, .inl Bg)), (q3, .inl (cI, 1256, .inl Pa)), (q4, .inl (cI, 80, .inl Tx)), (q5, .inl (cI, 5, .inl Nu))] := hD
              refine W.eq (g2 := F0 m 67 ls [.int (bi r_10)]) rfl ?_
              refine lv_if_ne (tgt := 86) hx hb dX9_addressOf_67 (by decide) (fun c67 => ?_) (fun c67 => ?_)
              · refine lv_iconst (v := 1) hx hb dX9_addressOf_86 (by decide) ?_
                refine lv_goto (tgt := 91) hx hb dX9_addressOf_87 (by decide) ?_
                exact K_91 true _ _ ls hP hD hS (lv_sub hl [0, 1, 2] rfl) ((bd1_e hk2).trans ((if_pos (bi_o c5)).trans ((bd1_e hk4).trans ((if_pos (bi_o c15)).trans ((if_neg c22).trans ((if_pos c27).trans ((bd1_e hk8).trans ((if_neg c47).trans ((if_pos c53).trans ((bd1_e hk10).trans ((if_pos (bi_o c67)).trans rfl)))))))))))
              · refine lv_iload_n hx hb dX9_addressOf_70 rfl (lv_at hl 2 rfl) ?_
                refine lv_bipush (v := 8) hx hb dX9_addressOf_71 (by decide) ?_
                refine lv_icmp_ne (tgt := 90) hx hb dX9_addressOf_73 (by decide) (fun c73 => ?_) (fun c73 => ?_)
                · refine lv_iconst (v := 0) hx hb dX9_addressOf_90 (by decide) ?_
                  exact K_91 false _ _ ls hP hD hS (lv_sub hl [0, 1, 2] rfl) ((bd1_e hk2).trans ((if_pos (bi_o c5)).trans ((bd1_e hk4).trans ((if_pos (bi_o c15)).trans ((if_neg c22).trans ((if_pos c27).trans ((bd1_e hk8).trans ((if_neg c47).trans ((if_pos c53).trans ((bd1_e hk10).trans ((if_neg (bi_z c67)).trans ((if_neg c73).trans rfl))))))))))))
                · refine lv_aload_n hx hb dX9_addressOf_76 rfl (lv_at hl 0 rfl) ?_
                  refine lv_iload_n hx hb dX9_addressOf_77 rfl (lv_at hl 1 rfl) ?_
                  refine lv_iconst (v := 1) hx hb dX9_addressOf_78 (by decide) ?_
                  refine callVi (As := [.int address, .int 1]) (rest := []) (mX9_of l D cI cC cS _ o q1 q2 q3 q4 q5 S Bg Pa Tx Nu st ln ps fm rs address 1 (ad_of (hk2.trans (bi_o c5)) ho.1) (vp_d rfl)) ⟨hx, hb, hml, hown, hts⟩ (cwV 2 hts gX9_addressOf_X9_of rfl rfl rfl (by decide +kernel) ⟨Nat.le_of_ble_eq_true rfl, Nat.le_of_ble_eq_true rfl⟩) X0_blind (fun _ _ _ => trivial) hP hK hD hS hA hl [0, 1, 2, 3, 4, 5] rfl rfl 0 7 rfl rfl rfl rfl rfl (Nat.le_of_ble_eq_true rfl) dX9_addressOf_79 ⟨Nat.zero_le _, Nat.zero_le _⟩ (fun _ => rfl) (fun u_ H locs hk12 hP hD hS => ?_)
                  obtain ⟨r_12, e_r_12⟩ : ∃ z, z = u_ := ⟨_, rfl⟩
                  subst e_r_12
                  have hP : va_P D vwCl [(o, .inr (7, [.ref q1, .ref q2, .ref q3, .int st, .ref q4, .int ln, .int ps, .int (bi fm), .int rs, .ref q5])), (q1, .inl (cI, 314, .inl S)), (q2, .inl (cI, 314, .inl Bg)), (q3, .inl (cI, 1256, .inl Pa)), (q4, .inl (cI, 80, .inl Tx)), (q5, .inl (cI, 5, .inl Nu))] H := hP
                  have hD : va_D Fr [(o, .inr (7, [.ref q1, .ref q2, .ref q3, .int st, .ref q4, .int ln, .int ps, .int (bi fm), .int rs, .ref q5])), (q1, .inl (cI, 314, .inl S)), (q2, .inl (cI, 314, .inl Bg)), (q3, .inl (cI, 1256, .inl Pa)), (q4, .inl (cI, 80, .inl Tx)), (q5, .inl (cI, 5, .inl Nu))] := hD
                  refine W.eq (g2 := F0 m 82 ls [.int r_12]) rfl ?_
                  refine lv_iconst (v := 1) hx hb dX9_addressOf_82 (by decide) ?_
                  refine lv_icmp_ne (tgt := 90) hx hb dX9_addressOf_83 (by decide) (fun c83 => ?_) (fun c83 => ?_)
                  · refine lv_iconst (v := 0) hx hb dX9_addressOf_90 (by decide) ?_
                    exact K_91 false _ _ ls hP hD hS (lv_sub hl [0, 1, 2] rfl) ((bd1_e hk2).trans ((if_pos (bi_o c5)).trans ((bd1_e hk4).trans ((if_pos (bi_o c15)).trans ((if_neg c22).trans ((if_pos c27).trans ((bd1_e hk8).trans ((if_neg c47).trans ((if_pos c53).trans ((bd1_e hk10).trans ((if_neg (bi_z c67)).trans ((if_pos c73).trans ((bd1_e hk12).trans ((if_neg c83).trans rfl))))))))))))))
                  · refine lv_iconst (v := 1) hx hb dX9_addressOf_86 (by decide) ?_
                    refine lv_goto (tgt := 91) hx hb dX9_addressOf_87 (by decide) ?_
                    exact K_91 true _ _ ls hP hD hS (lv_sub hl [0, 1, 2] rfl) ((bd1_e hk2).trans ((if_pos (bi_o c5)).trans ((bd1_e hk4).trans ((if_pos (bi_o c15)).trans ((if_neg c22).trans ((if_pos c27).trans ((bd1_e hk8).trans ((if_neg c47).trans ((if_pos c53).trans ((bd1_e hk10).trans ((if_neg (bi_z c67)).trans ((if_pos c73).trans ((bd1_e hk12).trans ((if_pos c83).trans rfl))))))))))))))
            · refine lv_iload_n hx hb dX9_addressOf_56 rfl (lv_at hl 2 rfl) ?_
              refine lv_bipush (v := 7) hx hb dX9_addressOf_57 (by decide) ?_
              refine lv_icmp_ne (tgt := 70) hx hb dX9_addressOf_59 (by decide) (fun c59 => ?_) (fun c59 => ?_)
              · refine lv_iload_n hx hb dX9_addressOf_70 rfl (lv_at hl 2 rfl) ?_
                refine lv_bipush (v := 8) hx hb dX9_addressOf_71 (by decide) ?_
                refine lv_icmp_ne (tgt := 90) hx hb dX9_addressOf_73 (by decide) (fun c73 => ?_) (fun c73 => ?_)
                · refine lv_iconst (v := 0) hx hb dX9_addressOf_90 (by decide) ?_
                  exact K_91 false _ _ ls hP hD hS (lv_sub hl [0, 1, 2] rfl) ((bd1_e hk2).trans ((if_pos (bi_o c5)).trans ((bd1_e hk4).trans ((if_pos (bi_o c15)).trans ((if_neg c22).trans ((if_pos c27).trans ((bd1_e hk8).trans ((if_neg c47).trans ((if_neg c53).trans ((if_neg c59).trans ((if_neg c73).trans rfl)))))))))))
                · refine lv_aload_n hx hb dX9_addressOf_76 rfl (lv_at hl 0 rfl) ?_
                  refine lv_iload_n hx hb dX9_addressOf_77 rfl (lv_at hl 1 rfl) ?_
                  refine lv_iconst (v := 1) hx hb dX9_addressOf_78 (by decide) ?_
                  refine callVi (As := [.int address, .int 1]) (rest := []) (mX9_of l D cI cC cS _ o q1 q2 q3 q4 q5 S Bg Pa Tx Nu st ln ps fm rs address 1 (ad_of (hk2.trans (bi_o c5)) ho.1) (vp_d rfl)) ⟨hx, hb, hml, hown, hts⟩ (cwV 2 hts gX9_addressOf_X9_of rfl rfl rfl (by decide +kernel) ⟨Nat.le_of_ble_eq_true rfl, Nat.le_of_ble_eq_true rfl⟩) X0_blind (fun _ _ _ => trivial) hP hK hD hS hA hl [0, 1, 2, 3, 4, 5] rfl rfl 0 7 rfl rfl rfl rfl rfl (Nat.le_of_ble_eq_true rfl) dX9_addressOf_79 ⟨Nat.zero_le _, Nat.zero_le _⟩ (fun _ => rfl) (fun u_ H locs hk14 hP hD hS => ?_)
                  obtain ⟨r_14, e_r_14⟩ : ∃ z, z = u_ := ⟨_, rfl⟩
                  subst e_r_14
                  have hP : va_P D vwCl [(o, .inr (7, [.ref q1, .ref q2, .ref q3, .int st, .ref q4, .int ln, .int ps, .int (bi fm), .int rs, .ref q5])), (q1, .inl (cI, 314, .inl S)), (q2, .inl (cI, 314, .inl Bg)), (q3, .inl (cI, 1256, .inl Pa)), (q4, .inl (cI, 80, .inl Tx)), (q5, .inl (cI, 5, .inl Nu))] H := hP
                  have hD : va_D Fr [(o, .inr (7, [.ref q1, .ref q2, .ref q3, .int st, .ref q4, .int ln, .int ps, .int (bi fm), .int rs, .ref q5])), (q1, .inl (cI, 314, .inl S)), (q2, .inl (cI, 314, .inl Bg)), (q3, .inl (cI, 1256, .inl Pa)), (q4, .inl (cI, 80, .inl Tx)), (q5, .inl (cI, 5, .inl Nu))] := hD
                  refine W.eq (g2 := F0 m 82 ls [.int r_14]) rfl ?_
                  refine lv_iconst (v := 1) hx hb dX9_addressOf_82 (by decide) ?_
                  refine lv_icmp_ne (tgt := 90) hx hb dX9_addressOf_83 (by decide) (fun c83 => ?_) (fun c83 => ?_)
                  · refine lv_iconst (v := 0) hx hb dX9_addressOf_90 (by decide) ?_
                    exact K_91 false _ _ ls hP hD hS (lv_sub hl [0, 1, 2] rfl) ((bd1_e hk2).trans ((if_pos (bi_o c5)).trans ((bd1_e hk4).trans ((if_pos (bi_o c15)).trans ((if_neg c22).trans ((if_pos c27).trans ((bd1_e hk8).trans ((if_neg c47).trans ((if_neg c53).trans ((if_neg c59).trans ((if_pos c73).trans ((bd1_e hk14).trans ((if_neg c83).trans rfl)))))))))))))
                  · refine lv_iconst (v := 1) hx hb dX9_addressOf_86 (by decide) ?_
                    refine lv_goto (tgt := 91) hx hb dX9_addressOf_87 (by decide) ?_
                    exact K_91 true _ _ ls hP hD hS (lv_sub hl [0, 1, 2] rfl) ((bd1_e hk2).trans ((if_pos (bi_o c5)).trans ((bd1_e hk4).trans ((if_pos (bi_o c15)).trans ((if_neg c22).trans ((if_pos c27).trans ((bd1_e hk8).trans ((if_neg c47).trans ((if_neg c53).trans ((if_neg c59).trans ((if_pos c73).trans ((bd1_e hk14).trans ((if_pos c83).trans rfl)))))))))))))
              · refine lv_aload_n hx hb dX9_addressOf_62 rfl (lv_at hl 0 rfl) ?_
                refine lv_iload_n hx hb dX9_addressOf_63 rfl (lv_at hl 1 rfl) ?_
                refine callVi (As := [.int address]) (rest := []) (mX9_isFixed l D cI cC cS _ o q1 q2 q3 q4 q5 S Bg Pa Tx Nu st ln ps fm rs address (ad_of (hk2.trans (bi_o c5)) ho.1)) ⟨hx, hb, hml, hown, hts⟩ (cwV 1 hts gX9_addressOf_X9_isFixed rfl rfl rfl (by decide +kernel) ⟨Nat.le_of_ble_eq_true rfl, Nat.le_of_ble_eq_true rfl⟩) X0_blind (fun _ _ _ => trivial) hP hK hD hS hA hl [0, 1, 2, 3, 4, 5] rfl rfl 0 7 rfl rfl rfl rfl rfl (Nat.le_of_ble_eq_true rfl) dX9_addressOf_64 ⟨Nat.zero_le _, Nat.zero_le _⟩ (fun _ => rfl) (fun u_ H locs hk16 hP hD hS => ?_)
                obtain ⟨r_16, e_r_16⟩ : ∃ z, z = u_ := ⟨_, rfl⟩
                subst e_r_16
                have hP : va_P D vwCl [(o, .inr (7, [.ref q1, .ref q2, .ref q3, .int st, .ref q4, .int ln, .int ps, .int (bi fm), .int rs, .ref q5])), (q1, .inl (cI, 314, .inl S)), (q2, .inl (cI, 314, .inl Bg)), (q3, .inl (cI, 1256, .inl Pa)), (q4, .inl (cI, 80, .inl Tx)), (q5, .inl (cI, 5, .inl Nu))] H := hP
                have hD : va_D Fr [(o, .inr (7, [.ref q1, .ref q2, .ref q3, .int st, .ref q4, .int ln, .int ps, .int (bi fm), .int rs, .ref q5])), (q1, .inl (cI, 314, .inl S)), (q2, .inl (cI, 314, .inl Bg)), (q3, .inl (cI, 1256, .inl Pa)), (q4, .inl (cI, 80, .inl Tx)), (q5, .inl (cI, 5, .inl Nu))] := hD
                refine W.eq (g2 := F0 m 67 ls [.int (bi r_16)]) rfl ?_
                refine lv_if_ne (tgt := 86) hx hb dX9_addressOf_67 (by decide) (fun c67 => ?_) (fun c67 => ?_)
                · refine lv_iconst (v := 1) hx hb dX9_addressOf_86 (by decide) ?_
                  refine lv_goto (tgt := 91) hx hb dX9_addressOf_87 (by decide) ?_
                  exact K_91 true _ _ ls hP hD hS (lv_sub hl [0, 1, 2] rfl) ((bd1_e hk2).trans ((if_pos (bi_o c5)).trans ((bd1_e hk4).trans ((if_pos (bi_o c15)).trans ((if_neg c22).trans ((if_pos c27).trans ((bd1_e hk8).trans ((if_neg c47).trans ((if_neg c53).trans ((if_pos c59).trans ((bd1_e hk16).trans ((if_pos (bi_o c67)).trans rfl))))))))))))
                · refine lv_iload_n hx hb dX9_addressOf_70 rfl (lv_at hl 2 rfl) ?_
                  refine lv_bipush (v := 8) hx hb dX9_addressOf_71 (by decide) ?_
                  refine lv_icmp_ne (tgt := 90) hx hb dX9_addressOf_73 (by decide) (fun c73 => ?_) (fun c73 => ?_)
                  · refine lv_iconst (v := 0) hx hb dX9_addressOf_90 (by decide) ?_
                    exact K_91 false _ _ ls hP hD hS (lv_sub hl [0, 1, 2] rfl) ((bd1_e hk2).trans ((if_pos (bi_o c5)).trans ((bd1_e hk4).trans ((if_pos (bi_o c15)).trans ((if_neg c22).trans ((if_pos c27).trans ((bd1_e hk8).trans ((if_neg c47).trans ((if_neg c53).trans ((if_pos c59).trans ((bd1_e hk16).trans ((if_neg (bi_z c67)).trans ((if_neg c73).trans rfl)))))))))))))
                  · refine lv_aload_n hx hb dX9_addressOf_76 rfl (lv_at hl 0 rfl) ?_
                    refine lv_iload_n hx hb dX9_addressOf_77 rfl (lv_at hl 1 rfl) ?_
                    refine lv_iconst (v := 1) hx hb dX9_addressOf_78 (by decide) ?_
                    refine callVi (As := [.int address, .int 1]) (rest := []) (mX9_of l D cI cC cS _ o q1 q2 q3 q4 q5 S Bg Pa Tx Nu st ln ps fm rs address 1 (ad_of (hk2.trans (bi_o c5)) ho.1) (vp_d rfl)) ⟨hx, hb, hml, hown, hts⟩ (cwV 2 hts gX9_addressOf_X9_of rfl rfl rfl (by decide +kernel) ⟨Nat.le_of_ble_eq_true rfl, Nat.le_of_ble_eq_true rfl⟩) X0_blind (fun _ _ _ => trivial) hP hK hD hS hA hl [0, 1, 2, 3, 4, 5] rfl rfl 0 7 rfl rfl rfl rfl rfl (Nat.le_of_ble_eq_true rfl) dX9_addressOf_79 ⟨Nat.zero_le _, Nat.zero_le _⟩ (fun _ => rfl) (fun u_ H locs hk18 hP hD hS => ?_)
                    obtain ⟨r_18, e_r_18⟩ : ∃ z, z = u_ := ⟨_, rfl⟩
                    subst e_r_18
                    have hP : va_P D vwCl [(o, .inr (7, [.ref q1, .ref q2, .ref q3, .int st, .ref q4, .int ln, .int ps, .int (bi fm), .int rs, .ref q5])), (q1, .inl (cI, 314, .inl S)), (q2, .inl (cI, 314, .inl Bg)), (q3, .inl (cI, 1256, .inl Pa)), (q4, .inl (cI, 80, .inl Tx)), (q5, .inl (cI, 5, .inl Nu))] H := hP
                    have hD : va_D Fr [(o, .inr (7, [.ref q1, .ref q2, .ref q3, .int st, .ref q4, .int ln, .int ps, .int (bi fm), .int rs, .ref q5])), (q1, .inl (cI, 314, .inl S)), (q2, .inl (cI, 314, .inl Bg)), (q3, .inl (cI, 1256, .inl Pa)), (q4, .inl (cI, 80, .inl Tx)), (q5, .inl (cI, 5, .inl Nu))] := hD
                    refine W.eq (g2 := F0 m 82 ls [.int r_18]) rfl ?_
                    refine lv_iconst (v := 1) hx hb dX9_addressOf_82 (by decide) ?_
                    refine lv_icmp_ne (tgt := 90) hx hb dX9_addressOf_83 (by decide) (fun c83 => ?_) (fun c83 => ?_)
                    · refine lv_iconst (v := 0) hx hb dX9_addressOf_90 (by decide) ?_
                      exact K_91 false _ _ ls hP hD hS (lv_sub hl [0, 1, 2] rfl) ((bd1_e hk2).trans ((if_pos (bi_o c5)).trans ((bd1_e hk4).trans ((if_pos (bi_o c15)).trans ((if_neg c22).trans ((if_pos c27).trans ((bd1_e hk8).trans ((if_neg c47).trans ((if_neg c53).trans ((if_pos c59).trans ((bd1_e hk16).trans ((if_neg (bi_z c67)).trans ((if_pos c73).trans ((bd1_e hk18).trans ((if_neg c83).trans rfl)))))))))))))))
                    · refine lv_iconst (v := 1) hx hb dX9_addressOf_86 (by decide) ?_
                      refine lv_goto (tgt := 91) hx hb dX9_addressOf_87 (by decide) ?_
                      exact K_91 true _ _ ls hP hD hS (lv_sub hl [0, 1, 2] rfl) ((bd1_e hk2).trans ((if_pos (bi_o c5)).trans ((bd1_e hk4).trans ((if_pos (bi_o c15)).trans ((if_neg c22).trans ((if_pos c27).trans ((bd1_e hk8).trans ((if_neg c47).trans ((if_neg c53).trans ((if_pos c59).trans ((bd1_e hk16).trans ((if_neg (bi_z c67)).trans ((if_pos c73).trans ((bd1_e hk18).trans ((if_pos c83).trans rfl)))))))))))))))
        · refine lv_iload_n hx hb dX9_addressOf_30 rfl (lv_at hl 2 rfl) ?_
          refine lv_iconst (v := 5) hx hb dX9_addressOf_31 (by decide) ?_
          refine lv_icmp_eq (tgt := 41) hx hb dX9_addressOf_32 (by decide) (fun c32 => ?_) (fun c32 => ?_)
          · refine lv_aload_n hx hb dX9_addressOf_41 rfl (lv_at hl 0 rfl) ?_
            refine lv_iload_n hx hb dX9_addressOf_42 rfl (lv_at hl 1 rfl) ?_
            refine lv_iconst (v := 2) hx hb dX9_addressOf_43 (by decide) ?_
            refine callVi (As := [.int address, .int 2]) (rest := []) (mX9_of l D cI cC cS _ o q1 q2 q3 q4 q5 S Bg Pa Tx Nu st ln ps fm rs address 2 (ad_of (hk2.trans (bi_o c5)) ho.1) (vp_d rfl)) ⟨hx, hb, hml, hown, hts⟩ (cwV 2 hts gX9_addressOf_X9_of rfl rfl rfl (by decide +kernel) ⟨Nat.le_of_ble_eq_true rfl, Nat.le_of_ble_eq_true rfl⟩) X0_blind (fun _ _ _ => trivial) hP hK hD hS hA hl [0, 1, 2, 3, 4, 5] rfl rfl 0 7 rfl rfl rfl rfl rfl (Nat.le_of_ble_eq_true rfl) dX9_addressOf_44 ⟨Nat.zero_le _, Nat.zero_le _⟩ (fun _ => rfl) (fun u_ H locs hk20 hP hD hS => ?_)
            obtain ⟨r_20, e_r_20⟩ : ∃ z, z = u_ := ⟨_, rfl⟩
            subst e_r_20
            have hP : va_P D vwCl [(o, .inr (7, [.ref q1, .ref q2, .ref q3, .int st, .ref q4, .int ln, .int ps, .int (bi fm), .int rs, .ref q5])), (q1, .inl (cI, 314, .inl S)), (q2, .inl (cI, 314, .inl Bg)), (q3, .inl (cI, 1256, .inl Pa)), (q4, .inl (cI, 80, .inl Tx)), (q5, .inl (cI, 5, .inl Nu))] H := hP
            have hD : va_D Fr [(o, .inr (7, [.ref q1, .ref q2, .ref q3, .int st, .ref q4, .int ln, .int ps, .int (bi fm), .int rs, .ref q5])), (q1, .inl (cI, 314, .inl S)), (q2, .inl (cI, 314, .inl Bg)), (q3, .inl (cI, 1256, .inl Pa)), (q4, .inl (cI, 80, .inl Tx)), (q5, .inl (cI, 5, .inl Nu))] := hD
            refine W.eq (g2 := F0 m 47 ls [.int r_20]) rfl ?_
            refine lv_if_gt (tgt := 86) hx hb dX9_addressOf_47 (by decide) (fun c47 => ?_) (fun c47 => ?_)
            · refine lv_iconst (v := 1) hx hb dX9_addressOf_86 (by decide) ?_
              refine lv_goto (tgt := 91) hx hb dX9_addressOf_87 (by decide) ?_
              exact K_91 true _ _ ls hP hD hS (lv_sub hl [0, 1, 2] rfl) ((bd1_e hk2).trans ((if_pos (bi_o c5)).trans ((bd1_e hk4).trans ((if_pos (bi_o c15)).trans ((if_neg c22).trans ((if_neg c27).trans ((if_pos c32).trans ((bd1_e hk20).trans ((if_pos c47).trans rfl)))))))))
            · refine lv_iload_n hx hb dX9_addressOf_50 rfl (lv_at hl 2 rfl) ?_
              refine lv_bipush (v := 6) hx hb dX9_addressOf_51 (by decide) ?_
              refine lv_icmp_eq (tgt := 62) hx hb dX9_addressOf_53 (by decide) (fun c53 => ?_) (fun c53 => ?_)
              · refine lv_aload_n hx hb dX9_addressOf_62 rfl (lv_at hl 0 rfl) ?_
                refine lv_iload_n hx hb dX9_addressOf_63 rfl (lv_at hl 1 rfl) ?_
                refine callVi (As := [.int address]) (rest := []) (mX9_isFixed l D cI cC cS _ o q1 q2 q3 q4 q5 S Bg Pa Tx Nu st ln ps fm rs address (ad_of (hk2.trans (bi_o c5)) ho.1)) ⟨hx, hb, hml, hown, hts⟩ (cwV 1 hts gX9_addressOf_X9_isFixed rfl rfl rfl (by decide +kernel) ⟨Nat.le_of_ble_eq_true rfl, Nat.le_of_ble_eq_true rfl⟩) X0_blind (fun _ _ _ => trivial) hP hK hD hS hA hl [0, 1, 2, 3, 4, 5] rfl rfl 0 7 rfl rfl rfl rfl rfl (Nat.le_of_ble_eq_true rfl) dX9_addressOf_64 ⟨Nat.zero_le _, Nat.zero_le _⟩ (fun _ => rfl) (fun u_ H locs hk22 hP hD hS => ?_)
                obtain ⟨r_22, e_r_22⟩ : ∃ z, z = u_ := ⟨_, rfl⟩
                subst e_r_22
                have hP : va_P D vwCl [(o, .inr (7, [.ref q1, .ref q2, .ref q3, .int st, .ref q4, .int ln, .int ps, .int (bi fm), .int rs, .ref q5])), (q1, .inl (cI, 314, .inl S)), (q2, .inl (cI, 314, .inl Bg)), (q3, .inl (cI, 1256, .inl Pa)), (q4, .inl (cI, 80, .inl Tx)), (q5, .inl (cI, 5, .inl Nu))] H := hP
                have hD : va_D Fr [(o, .inr (7, [.ref q1, .ref q2, .ref q3, .int st, .ref q4, .int ln, .int ps, .int (bi fm), .int rs, .ref q5])), (q1, .inl (cI, 314, .inl S)), (q2, .inl (cI, 314, .inl Bg)), (q3, .inl (cI, 1256, .inl Pa)), (q4, .inl (cI, 80, .inl Tx)), (q5, .inl (cI, 5, .inl Nu))] := hD
                refine W.eq (g2 := F0 m 67 ls [.int (bi r_22)]) rfl ?_
                refine lv_if_ne (tgt := 86) hx hb dX9_addressOf_67 (by decide) (fun c67 => ?_) (fun c67 => ?_)
                · refine lv_iconst (v := 1) hx hb dX9_addressOf_86 (by decide) ?_
                  refine lv_goto (tgt := 91) hx hb dX9_addressOf_87 (by decide) ?_
                  exact K_91 true _ _ ls hP hD hS (lv_sub hl [0, 1, 2] rfl) ((bd1_e hk2).trans ((if_pos (bi_o c5)).trans ((bd1_e hk4).trans ((if_pos (bi_o c15)).trans ((if_neg c22).trans ((if_neg c27).trans ((if_pos c32).trans ((bd1_e hk20).trans ((if_neg c47).trans ((if_pos c53).trans ((bd1_e hk22).trans ((if_pos (bi_o c67)).trans rfl))))))))))))
                · refine lv_iload_n hx hb dX9_addressOf_70 rfl (lv_at hl 2 rfl) ?_
                  refine lv_bipush (v := 8) hx hb dX9_addressOf_71 (by decide) ?_
                  refine lv_icmp_ne (tgt := 90) hx hb dX9_addressOf_73 (by decide) (fun c73 => ?_) (fun c73 => ?_)
                  · refine lv_iconst (v := 0) hx hb dX9_addressOf_90 (by decide) ?_
                    exact K_91 false _ _ ls hP hD hS (lv_sub hl [0, 1, 2] rfl) ((bd1_e hk2).trans ((if_pos (bi_o c5)).trans ((bd1_e hk4).trans ((if_pos (bi_o c15)).trans ((if_neg c22).trans ((if_neg c27).trans ((if_pos c32).trans ((bd1_e hk20).trans ((if_neg c47).trans ((if_pos c53).trans ((bd1_e hk22).trans ((if_neg (bi_z c67)).trans ((if_neg c73).trans rfl)))))))))))))
                  · refine lv_aload_n hx hb dX9_addressOf_76 rfl (lv_at hl 0 rfl) ?_
                    refine lv_iload_n hx hb dX9_addressOf_77 rfl (lv_at hl 1 rfl) ?_
                    refine lv_iconst (v := 1) hx hb dX9_addressOf_78 (by decide) ?_
                    refine callVi (As := [.int address, .int 1]) (rest := []) (mX9_of l D cI cC cS _ o q1 q2 q3 q4 q5 S Bg Pa Tx Nu st ln ps fm rs address 1 (ad_of (hk2.trans (bi_o c5)) ho.1) (vp_d rfl)) ⟨hx, hb, hml, hown, hts⟩ (cwV 2 hts gX9_addressOf_X9_of rfl rfl rfl (by decide +kernel) ⟨Nat.le_of_ble_eq_true rfl, Nat.le_of_ble_eq_true rfl⟩) X0_blind (fun _ _ _ => trivial) hP hK hD hS hA hl [0, 1, 2, 3, 4, 5] rfl rfl 0 7 rfl rfl rfl rfl rfl (Nat.le_of_ble_eq_true rfl) dX9_addressOf_79 ⟨Nat.zero_le _, Nat.zero_le _⟩ (fun _ => rfl) (fun u_ H locs hk24 hP hD hS => ?_)
                    obtain ⟨r_24, e_r_24⟩ : ∃ z, z = u_ := ⟨_, rfl⟩
                    subst e_r_24
                    have hP : va_P D vwCl [(o, .inr (7, [.ref q1, .ref q2, .ref q3, .int st, .ref q4, .int ln, .int ps, .int (bi fm), .int rs, .ref q5])), (q1, .inl (cI, 314, .inl S)), (q2, .inl (cI, 314, .inl Bg)), (q3, .inl (cI, 1256, .inl Pa)), (q4, .inl (cI, 80, .inl Tx)), (q5, .inl (cI, 5, .inl Nu))] H := hP
                    have hD : va_D Fr [(o, .inr (7, [.ref q1, .ref q2, .ref q3, .int st, .ref q4, .int ln, .int ps, .int (bi fm), .int rs, .ref q5])), (q1, .inl (cI, 314, .inl S)), (q2, .inl (cI, 314, .inl Bg)), (q3, .inl (cI, 1256, .inl Pa)), (q4, .inl (cI, 80, .inl Tx)), (q5, .inl (cI, 5, .inl Nu))] := hD
                    refine W.eq (g2 := F0 m 82 ls [.int r_24]) rfl ?_
                    refine lv_iconst (v := 1) hx hb dX9_addressOf_82 (by decide) ?_
                    refine lv_icmp_ne (tgt := 90) hx hb dX9_addressOf_83 (by decide) (fun c83 => ?_) (fun c83 => ?_)
                    · refine lv_iconst (v := 0) hx hb dX9_addressOf_90 (by decide) ?_
                      exact K_91 false _ _ ls hP hD hS (lv_sub hl [0, 1, 2] rfl) ((bd1_e hk2).trans ((if_pos (bi_o c5)).trans ((bd1_e hk4).trans ((if_pos (bi_o c15)).trans ((if_neg c22).trans ((if_neg c27).trans ((if_pos c32).trans ((bd1_e hk20).trans ((if_neg c47).trans ((if_pos c53).trans ((bd1_e hk22).trans ((if_neg (bi_z c67)).trans ((if_pos c73).trans ((bd1_e hk24).trans ((if_neg c83).trans rfl)))))))))))))))
                    · refine lv_iconst (v := 1) hx hb dX9_addressOf_86 (by decide) ?_
                      refine lv_goto (tgt := 91) hx hb dX9_addressOf_87 (by decide) ?_
                      exact K_91 true _ _ ls hP hD hS (lv_sub hl [0, 1, 2] rfl) ((bd1_e hk2).trans ((if_pos (bi_o c5)).trans ((bd1_e hk4).trans ((if_pos (bi_o c15)).trans ((if_neg c22).trans ((if_neg c27).trans ((if_pos c32).trans ((bd1_e hk20).trans ((if_neg c47).trans ((if_pos c53).trans ((bd1_e hk22).trans ((if_neg (bi_z c67)).trans ((if_pos c73).trans ((bd1_e hk24).trans ((if_pos c83).trans rfl)))))))))))))))
              · refine lv_iload_n hx hb dX9_addressOf_56 rfl (lv_at hl 2 rfl) ?_
                refine lv_bipush (v := 7) hx hb dX9_addressOf_57 (by decide) ?_
                refine lv_icmp_ne (tgt := 70) hx hb dX9_addressOf_59 (by decide) (fun c59 => ?_) (fun c59 => ?_)
                · refine lv_iload_n hx hb dX9_addressOf_70 rfl (lv_at hl 2 rfl) ?_
                  refine lv_bipush (v := 8) hx hb dX9_addressOf_71 (by decide) ?_
                  refine lv_icmp_ne (tgt := 90) hx hb dX9_addressOf_73 (by decide) (fun c73 => ?_) (fun c73 => ?_)
                  · refine lv_iconst (v := 0) hx hb dX9_addressOf_90 (by decide) ?_
                    exact K_91 false _ _ ls hP hD hS (lv_sub hl [0, 1, 2] rfl) ((bd1_e hk2).trans ((if_pos (bi_o c5)).trans ((bd1_e hk4).trans ((if_pos (bi_o c15)).trans ((if_neg c22).trans ((if_neg c27).trans ((if_pos c32).trans ((bd1_e hk20).trans ((if_neg c47).trans ((if_neg c53).trans ((if_neg c59).trans ((if_neg c73).trans rfl))))))))))))
                  · refine lv_aload_n hx hb dX9_addressOf_76 rfl (lv_at hl 0 rfl) ?_
                    refine lv_iload_n hx hb dX9_addressOf_77 rfl (lv_at hl 1 rfl) ?_
                    refine lv_iconst (v := 1) hx hb dX9_addressOf_78 (by decide) ?_
                    refine callVi (As := [.int address, .int 1]) (rest := []) (mX9_of l D cI cC cS _ o q1 q2 q3 q4 q5 S Bg Pa Tx Nu st ln ps fm rs address 1 (ad_of (hk2.trans (bi_o c5)) ho.1) (vp_d rfl)) ⟨hx, hb, hml, hown, hts⟩ (cwV 2 hts gX9_addressOf_X9_of rfl rfl rfl (by decide +kernel) ⟨Nat.le_of_ble_eq_true rfl, Nat.le_of_ble_eq_true rfl⟩) X0_blind (fun _ _ _ => trivial) hP hK hD hS hA hl [0, 1, 2, 3, 4, 5] rfl rfl 0 7 rfl rfl rfl rfl rfl (Nat.le_of_ble_eq_true rfl) dX9_addressOf_79 ⟨Nat.zero_le _, Nat.zero_le _⟩ (fun _ => rfl) (fun u_ H locs hk26 hP hD hS => ?_)
                    obtain ⟨r_26, e_r_26⟩ : ∃ z, z = u_ := ⟨_, rfl⟩
                    subst e_r_26
                    have hP : va_P D vwCl [(o, .inr (7, [.ref q1, .ref q2, .ref q3, .int st, .ref q4, .int ln, .int ps, .int (bi fm), .int rs, .ref q5])), (q1, .inl (cI, 314, .inl S)), (q2, .inl (cI, 314, .inl Bg)), (q3, .inl (cI, 1256, .inl Pa)), (q4, .inl (cI, 80, .inl Tx)), (q5, .inl (cI, 5, .inl Nu))] H := hP
                    have hD : va_D Fr [(o, .inr (7, [.ref q1, .ref q2, .ref q3, .int st, .ref q4, .int ln, .int ps, .int (bi fm), .int rs, .ref q5])), (q1, .inl (cI, 314, .inl S)), (q2, .inl (cI, 314, .inl Bg)), (q3, .inl (cI, 1256, .inl Pa)), (q4, .inl (cI, 80, .inl Tx)), (q5, .inl (cI, 5, .inl Nu))] := hD
                    refine W.eq (g2 := F0 m 82 ls [.int r_26]) rfl ?_
                    refine lv_iconst (v := 1) hx hb dX9_addressOf_82 (by decide) ?_
                    refine lv_icmp_ne (tgt := 90) hx hb dX9_addressOf_83 (by decide) (fun c83 => ?_) (fun c83 => ?_)
                    · refine lv_iconst (v := 0) hx hb dX9_addressOf_90 (by decide) ?_
                      exact K_91 false _ _ ls hP hD hS (lv_sub hl [0, 1, 2] rfl) ((bd1_e hk2).trans ((if_pos (bi_o c5)).trans ((bd1_e hk4).trans ((if_pos (bi_o c15)).trans ((if_neg c22).trans ((if_neg c27).trans ((if_pos c32).trans ((bd1_e hk20).trans ((if_neg c47).trans ((if_neg c53).trans ((if_neg c59).trans ((if_pos c73).trans ((bd1_e hk26).trans ((if_neg c83).trans rfl))))))))))))))
                    · refine lv_iconst (v := 1) hx hb dX9_addressOf_86 (by decide) ?_
                      refine lv_goto (tgt := 91) hx hb dX9_addressOf_87 (by decide) ?_
                      exact K_91 true _ _ ls hP hD hS (lv_sub hl [0, 1, 2] rfl) ((bd1_e hk2).trans ((if_pos (bi_o c5)).trans ((bd1_e hk4).trans ((if_pos (bi_o c15)).trans ((if_neg c22).trans ((if_neg c27).trans ((if_pos c32).trans ((bd1_e hk20).trans ((if_neg c47).trans ((if_neg c53).trans ((if_neg c59).trans ((if_pos c73).trans ((bd1_e hk26).trans ((if_pos c83).trans rfl))))))))))))))
                · refine lv_aload_n hx hb dX9_addressOf_62 rfl (lv_at hl 0 rfl) ?_
                  refine lv_iload_n hx hb dX9_addressOf_63 rfl (lv_at hl 1 rfl) ?_
                  refine callVi (As := [.int address]) (rest := []) (mX9_isFixed l D cI cC cS _ o q1 q2 q3 q4 q5 S Bg Pa Tx Nu st ln ps fm rs address (ad_of (hk2.trans (bi_o c5)) ho.1)) ⟨hx, hb, hml, hown, hts⟩ (cwV 1 hts gX9_addressOf_X9_isFixed rfl rfl rfl (by decide +kernel) ⟨Nat.le_of_ble_eq_true rfl, Nat.le_of_ble_eq_true rfl⟩) X0_blind (fun _ _ _ => trivial) hP hK hD hS hA hl [0, 1, 2, 3, 4, 5] rfl rfl 0 7 rfl rfl rfl rfl rfl (Nat.le_of_ble_eq_true rfl) dX9_addressOf_64 ⟨Nat.zero_le _, Nat.zero_le _⟩ (fun _ => rfl) (fun u_ H locs hk28 hP hD hS => ?_)
                  obtain ⟨r_28, e_r_28⟩ : ∃ z, z = u_ := ⟨_, rfl⟩
                  subst e_r_28
                  have hP : va_P D vwCl [(o, .inr (7, [.ref q1, .ref q2, .ref q3, .int st, .ref q4, .int ln, .int ps, .int (bi fm), .int rs, .ref q5])), (q1, .inl (cI, 314, .inl S)), (q2, .inl (cI, 314, .inl Bg)), (q3, .inl (cI, 1256, .inl Pa)), (q4, .inl (cI, 80, .inl Tx)), (q5, .inl (cI, 5, .inl Nu))] H := hP
                  have hD : va_D Fr [(o, .inr (7, [.ref q1, .ref q2, .ref q3, .int st, .ref q4, .int ln, .int ps, .int (bi fm), .int rs, .ref q5])), (q1, .inl (cI, 314, .inl S)), (q2, .inl (cI, 314, .inl Bg)), (q3, .inl (cI, 1256, .inl Pa)), (q4, .inl (cI, 80, .inl Tx)), (q5, .inl (cI, 5, .inl Nu))] := hD
                  refine W.eq (g2 := F0 m 67 ls [.int (bi r_28)]) rfl ?_
                  refine lv_if_ne (tgt := 86) hx hb dX9_addressOf_67 (by decide) (fun c67 => ?_) (fun c67 => ?_)
                  · refine lv_iconst (v := 1) hx hb dX9_addressOf_86 (by decide) ?_
                    refine lv_goto (tgt := 91) hx hb dX9_addressOf_87 (by decide) ?_
                    exact K_91 true _ _ ls hP hD hS (lv_sub hl [0, 1, 2] rfl) ((bd1_e hk2).trans ((if_pos (bi_o c5)).trans ((bd1_e hk4).trans ((if_pos (bi_o c15)).trans ((if_neg c22).trans ((if_neg c27).trans ((if_pos c32).trans ((bd1_e hk20).trans ((if_neg c47).trans ((if_neg c53).trans ((if_pos c59).trans ((bd1_e hk28).trans ((if_pos (bi_o c67)).trans rfl)))))))))))))
                  · refine lv_iload_n hx hb dX9_addressOf_70 rfl (lv_at hl 2 rfl) ?_
                    refine lv_bipush (v := 8) hx hb dX9_addressOf_71 (by decide) ?_
                    refine lv_icmp_ne (tgt := 90) hx hb dX9_addressOf_73 (by decide) (fun c73 => ?_) (fun c73 => ?_)
                    · refine lv_iconst (v := 0) hx hb dX9_addressOf_90 (by decide) ?_
                      exact K_91 false _ _ ls hP hD hS (lv_sub hl [0, 1, 2] rfl) ((bd1_e hk2).trans ((if_pos (bi_o c5)).trans ((bd1_e hk4).trans ((if_pos (bi_o c15)).trans ((if_neg c22).trans ((if_neg c27).trans ((if_pos c32).trans ((bd1_e hk20).trans ((if_neg c47).trans ((if_neg c53).trans ((if_pos c59).trans ((bd1_e hk28).trans ((if_neg (bi_z c67)).trans ((if_neg c73).trans rfl))))))))))))))
                    · refine lv_aload_n hx hb dX9_addressOf_76 rfl (lv_at hl 0 rfl) ?_
                      refine lv_iload_n hx hb dX9_addressOf_77 rfl (lv_at hl 1 rfl) ?_
                      refine lv_iconst (v := 1) hx hb dX9_addressOf_78 (by decide) ?_
                      refine callVi (As := [.int address, .int 1]) (rest := []) (mX9_of l D cI cC cS _ o q1 q2 q3 q4 q5 S Bg Pa Tx Nu st ln ps fm rs address 1 (ad_of (hk2.trans (bi_o c5)) ho.1) (vp_d rfl)) ⟨hx, hb, hml, hown, hts⟩ (cwV 2 hts gX9_addressOf_X9_of rfl rfl rfl (by decide +kernel) ⟨Nat.le_of_ble_eq_true rfl, Nat.le_of_ble_eq_true rfl⟩) X0_blind (fun _ _ _ => trivial) hP hK hD hS hA hl [0, 1, 2, 3, 4, 5] rfl rfl 0 7 rfl rfl rfl rfl rfl (Nat.le_of_ble_eq_true rfl) dX9_addressOf_79 ⟨Nat.zero_le _, Nat.zero_le _⟩ (fun _ => rfl) (fun u_ H locs hk30 hP hD hS => ?_)
                      obtain ⟨r_30, e_r_30⟩ : ∃ z, z = u_ := ⟨_, rfl⟩
                      subst e_r_30
                      have hP : va_P D vwCl [(o, .inr (7, [.ref q1, .ref q2, .ref q3, .int st, .ref q4, .int ln, .int ps, .int (bi fm), .int rs, .ref q5])), (q1, .inl (cI, 314, .inl S)), (q2, .inl (cI, 314, .inl Bg)), (q3, .inl (cI, 1256, .inl Pa)), (q4, .inl (cI, 80, .inl Tx)), (q5, .inl (cI, 5, .inl Nu))] H := hP
                      have hD : va_D Fr [(o, .inr (7, [.ref q1, .ref q2, .ref q3, .int st, .ref q4, .int ln, .int ps, .int (bi fm), .int rs, .ref q5])), (q1, .inl (cI, 314, .inl S)), (q2, .inl (cI, 314, .inl Bg)), (q3, .inl (cI, 1256, .inl Pa)), (q4, .inl (cI, 80, .inl Tx)), (q5, .inl (cI, 5, .inl Nu))] := hD
                      refine W.eq (g2 := F0 m 82 ls [.int r_30]) rfl ?_
                      refine lv_iconst (v := 1) hx hb dX9_addressOf_82 (by decide) ?_
                      refine lv_icmp_ne (tgt := 90) hx hb dX9_addressOf_83 (by decide) (fun c83 => ?_) (fun c83 => ?_)
                      · refine lv_iconst (v := 0) hx hb dX9_addressOf_90 (by decide) ?_
                        exact K_91 false _ _ ls hP hD hS (lv_sub hl [0, 1, 2] rfl) ((bd1_e hk2).trans ((if_pos (bi_o c5)).trans ((bd1_e hk4).trans ((if_pos (bi_o c15)).trans ((if_neg c22).trans ((if_neg c27).trans ((if_pos c32).trans ((bd1_e hk20).trans ((if_neg c47).trans ((if_neg c53).trans ((if_pos c59).trans ((bd1_e hk28).trans ((if_neg (bi_z c67)).trans ((if_pos c73).trans ((bd1_e hk30).trans ((if_neg c83).trans rfl))))))))))))))))
                      · refine lv_iconst (v := 1) hx hb dX9_addressOf_86 (by decide) ?_
                        refine lv_goto (tgt := 91) hx hb dX9_addressOf_87 (by decide) ?_
                        exact K_91 true _ _ ls hP hD hS (lv_sub hl [0, 1, 2] rfl) ((bd1_e hk2).trans ((if_pos (bi_o c5)).trans ((bd1_e hk4).trans ((if_pos (bi_o c15)).trans ((if_neg c22).trans ((if_neg c27).trans ((if_pos c32).trans ((bd1_e hk20).trans ((if_neg c47).trans ((if_neg c53).trans ((if_pos c59).trans ((bd1_e hk28).trans ((if_neg (bi_z c67)).trans ((if_pos c73).trans ((bd1_e hk30).trans ((if_pos c83).trans rfl))))))))))))))))
          · refine lv_iload_n hx hb dX9_addressOf_35 rfl (lv_at hl 2 rfl) ?_
            refine lv_bipush (v := 9) hx hb dX9_addressOf_36 (by decide) ?_
            refine lv_icmp_ne (tgt := 50) hx hb dX9_addressOf_38 (by decide) (fun c38 => ?_) (fun c38 => ?_)
            · refine lv_iload_n hx hb dX9_addressOf_50 rfl (lv_at hl 2 rfl) ?_
              refine lv_bipush (v := 6) hx hb dX9_addressOf_51 (by decide) ?_
              refine lv_icmp_eq (tgt := 62) hx hb dX9_addressOf_53 (by decide) (fun c53 => ?_) (fun c53 => ?_)
              · refine lv_aload_n hx hb dX9_addressOf_62 rfl (lv_at hl 0 rfl) ?_
                refine lv_iload_n hx hb dX9_addressOf_63 rfl (lv_at hl 1 rfl) ?_
                refine callVi (As := [.int address]) (rest := []) (mX9_isFixed l D cI cC cS _ o q1 q2 q3 q4 q5 S Bg Pa Tx Nu st ln ps fm rs address (ad_of (hk2.trans (bi_o c5)) ho.1)) ⟨hx, hb, hml, hown, hts⟩ (cwV 1 hts gX9_addressOf_X9_isFixed rfl rfl rfl (by decide +kernel) ⟨Nat.le_of_ble_eq_true rfl, Nat.le_of_ble_eq_true rfl⟩) X0_blind (fun _ _ _ => trivial) hP hK hD hS hA hl [0, 1, 2, 3, 4, 5] rfl rfl 0 7 rfl rfl rfl rfl rfl (Nat.le_of_ble_eq_true rfl) dX9_addressOf_64 ⟨Nat.zero_le _, Nat.zero_le _⟩ (fun _ => rfl) (fun u_ H locs hk32 hP hD hS => ?_)
                obtain ⟨r_32, e_r_32⟩ : ∃ z, z = u_ := ⟨_, rfl⟩
                subst e_r_32
                have hP : va_P D vwCl [(o, .inr (7, [.ref q1, .ref q2, .ref q3, .int st, .ref q4, .int ln, .int ps, .int (bi fm), .int rs, .ref q5])), (q1, .inl (cI, 314, .inl S)), (q2, .inl (cI, 314, .inl Bg)), (q3, .inl (cI, 1256, .inl Pa)), (q4, .inl (cI, 80, .inl Tx)), (q5, .inl (cI, 5, .inl Nu))] H := hP
                have hD : va_D Fr [(o, .inr (7, [.ref q1, .ref q2, .ref q3, .int st, .ref q4, .int ln, .int ps, .int (bi fm), .int rs, .ref q5])), (q1, .inl (cI, 314, .inl S)), (q2, .inl (cI, 314, .inl Bg)), (q3, .inl (cI, 1256, .inl Pa)), (q4, .inl (cI, 80, .inl Tx)), (q5, .inl (cI, 5, .inl Nu))] := hD
                refine W.eq (g2 := F0 m 67 ls [.int (bi r_32)]) rfl ?_
                refine lv_if_ne (tgt := 86) hx hb dX9_addressOf_67 (by decide) (fun c67 => ?_) (fun c67 => ?_)
                · refine lv_iconst (v := 1) hx hb dX9_addressOf_86 (by decide) ?_
                  refine lv_goto (tgt := 91) hx hb dX9_addressOf_87 (by decide) ?_
                  exact K_91 true _ _ ls hP hD hS (lv_sub hl [0, 1, 2] rfl) ((bd1_e hk2).trans ((if_pos (bi_o c5)).trans ((bd1_e hk4).trans ((if_pos (bi_o c15)).trans ((if_neg c22).trans ((if_neg c27).trans ((if_neg c32).trans ((if_neg c38).trans ((if_pos c53).trans ((bd1_e hk32).trans ((if_pos (bi_o c67)).trans rfl)))))))))))
                · refine lv_iload_n hx hb dX9_addressOf_70 rfl (lv_at hl 2 rfl) ?_
                  refine lv_bipush (v := 8) hx hb dX9_addressOf_71 (by decide) ?_
                  refine lv_icmp_ne (tgt := 90) hx hb dX9_addressOf_73 (by decide) (fun c73 => ?_) (fun c73 => ?_)
                  · refine lv_iconst (v := 0) hx hb dX9_addressOf_90 (by decide) ?_
                    exact K_91 false _ _ ls hP hD hS (lv_sub hl [0, 1, 2] rfl) ((bd1_e hk2).trans ((if_pos (bi_o c5)).trans ((bd1_e hk4).trans ((if_pos (bi_o c15)).trans ((if_neg c22).trans ((if_neg c27).trans ((if_neg c32).trans ((if_neg c38).trans ((if_pos c53).trans ((bd1_e hk32).trans ((if_neg (bi_z c67)).trans ((if_neg c73).trans rfl))))))))))))
                  · refine lv_aload_n hx hb dX9_addressOf_76 rfl (lv_at hl 0 rfl) ?_
                    refine lv_iload_n hx hb dX9_addressOf_77 rfl (lv_at hl 1 rfl) ?_
                    refine lv_iconst (v := 1) hx hb dX9_addressOf_78 (by decide) ?_
                    refine callVi (As := [.int address, .int 1]) (rest := []) (mX9_of l D cI cC cS _ o q1 q2 q3 q4 q5 S Bg Pa Tx Nu st ln ps fm rs address 1 (ad_of (hk2.trans (bi_o c5)) ho.1) (vp_d rfl)) ⟨hx, hb, hml, hown, hts⟩ (cwV 2 hts gX9_addressOf_X9_of rfl rfl rfl (by decide +kernel) ⟨Nat.le_of_ble_eq_true rfl, Nat.le_of_ble_eq_true rfl⟩) X0_blind (fun _ _ _ => trivial) hP hK hD hS hA hl [0, 1, 2, 3, 4, 5] rfl rfl 0 7 rfl rfl rfl rfl rfl (Nat.le_of_ble_eq_true rfl) dX9_addressOf_79 ⟨Nat.zero_le _, Nat.zero_le _⟩ (fun _ => rfl) (fun u_ H locs hk34 hP hD hS => ?_)
                    obtain ⟨r_34, e_r_34⟩ : ∃ z, z = u_ := ⟨_, rfl⟩
                    subst e_r_34
                    have hP : va_P D vwCl [(o, .inr (7, [.ref q1, .ref q2, .ref q3, .int st, .ref q4, .int ln, .int ps, .int (bi fm), .int rs, .ref q5])), (q1, .inl (cI, 314, .inl S)), (q2, .inl (cI, 314, .inl Bg)), (q3, .inl (cI, 1256, .inl Pa)), (q4, .inl (cI, 80, .inl Tx)), (q5, .inl (cI, 5, .inl Nu))] H := hP
                    have hD : va_D Fr [(o, .inr (7, [.ref q1, .ref q2, .ref q3, .int st, .ref q4, .int ln, .int ps, .int (bi fm), .int rs, .ref q5])), (q1, .inl (cI, 314, .inl S)), (q2, .inl (cI, 314, .inl Bg)), (q3, .inl (cI, 1256, .inl Pa)), (q4, .inl (cI, 80, .inl Tx)), (q5, .inl (cI, 5, .inl Nu))] := hD
                    refine W.eq (g2 := F0 m 82 ls [.int r_34]) rfl ?_
                    refine lv_iconst (v := 1) hx hb dX9_addressOf_82 (by decide) ?_
                    refine lv_icmp_ne (tgt := 90) hx hb dX9_addressOf_83 (by decide) (fun c83 => ?_) (fun c83 => ?_)
                    · refine lv_iconst (v := 0) hx hb dX9_addressOf_90 (by decide) ?_
                      exact K_91 false _ _ ls hP hD hS (lv_sub hl [0, 1, 2] rfl) ((bd1_e hk2).trans ((if_pos (bi_o c5)).trans ((bd1_e hk4).trans ((if_pos (bi_o c15)).trans ((if_neg c22).trans ((if_neg c27).trans ((if_neg c32).trans ((if_neg c38).trans ((if_pos c53).trans ((bd1_e hk32).trans ((if_neg (bi_z c67)).trans ((if_pos c73).trans ((bd1_e hk34).trans ((if_neg c83).trans rfl))))))))))))))
                    · refine lv_iconst (v := 1) hx hb dX9_addressOf_86 (by decide) ?_
                      refine lv_goto (tgt := 91) hx hb dX9_addressOf_87 (by decide) ?_
                      exact K_91 true _ _ ls hP hD hS (lv_sub hl [0, 1, 2] rfl) ((bd1_e hk2).trans ((if_pos (bi_o c5)).trans ((bd1_e hk4).trans ((if_pos (bi_o c15)).trans ((if_neg c22).trans ((if_neg c27).trans ((if_neg c32).trans ((if_neg c38).trans ((if_pos c53).trans ((bd1_e hk32).trans ((if_neg (bi_z c67)).trans ((if_pos c73).trans ((bd1_e hk34).trans ((if_pos c83).trans rfl))))))))))))))
              · refine lv_iload_n hx hb dX9_addressOf_56 rfl (lv_at hl 2 rfl) ?_
                refine lv_bipush (v := 7) hx hb dX9_addressOf_57 (by decide) ?_
                refine lv_icmp_ne (tgt := 70) hx hb dX9_addressOf_59 (by decide) (fun c59 => ?_) (fun c59 => ?_)
                · refine lv_iload_n hx hb dX9_addressOf_70 rfl (lv_at hl 2 rfl) ?_
                  refine lv_bipush (v := 8) hx hb dX9_addressOf_71 (by decide) ?_
                  refine lv_icmp_ne (tgt := 90) hx hb dX9_addressOf_73 (by decide) (fun c73 => ?_) (fun c73 => ?_)
                  · refine lv_iconst (v := 0) hx hb dX9_addressOf_90 (by decide) ?_
                    exact K_91 false _ _ ls hP hD hS (lv_sub hl [0, 1, 2] rfl) ((bd1_e hk2).trans ((if_pos (bi_o c5)).trans ((bd1_e hk4).trans ((if_pos (bi_o c15)).trans ((if_neg c22).trans ((if_neg c27).trans ((if_neg c32).trans ((if_neg c38).trans ((if_neg c53).trans ((if_neg c59).trans ((if_neg c73).trans rfl)))))))))))
                  · refine lv_aload_n hx hb dX9_addressOf_76 rfl (lv_at hl 0 rfl) ?_
                    refine lv_iload_n hx hb dX9_addressOf_77 rfl (lv_at hl 1 rfl) ?_
                    refine lv_iconst (v := 1) hx hb dX9_addressOf_78 (by decide) ?_
                    refine callVi (As := [.int address, .int 1]) (rest := []) (mX9_of l D cI cC cS _ o q1 q2 q3 q4 q5 S Bg Pa Tx Nu st ln ps fm rs address 1 (ad_of (hk2.trans (bi_o c5)) ho.1) (vp_d rfl)) ⟨hx, hb, hml, hown, hts⟩ (cwV 2 hts gX9_addressOf_X9_of rfl rfl rfl (by decide +kernel) ⟨Nat.le_of_ble_eq_true rfl, Nat.le_of_ble_eq_true rfl⟩) X0_blind (fun _ _ _ => trivial) hP hK hD hS hA hl [0, 1, 2, 3, 4, 5] rfl rfl 0 7 rfl rfl rfl rfl rfl (Nat.le_of_ble_eq_true rfl) dX9_addressOf_79 ⟨Nat.zero_le _, Nat.zero_le _⟩ (fun _ => rfl) (fun u_ H locs hk36 hP hD hS => ?_)
                    obtain ⟨r_36, e_r_36⟩ : ∃ z, z = u_ := ⟨_, rfl⟩
                    subst e_r_36
                    have hP : va_P D vwCl [(o, .inr (7, [.ref q1, .ref q2, .ref q3, .int st, .ref q4, .int ln, .int ps, .int (bi fm), .int rs, .ref q5])), (q1, .inl (cI, 314, .inl S)), (q2, .inl (cI, 314, .inl Bg)), (q3, .inl (cI, 1256, .inl Pa)), (q4, .inl (cI, 80, .inl Tx)), (q5, .inl (cI, 5, .inl Nu))] H := hP
                    have hD : va_D Fr [(o, .inr (7, [.ref q1, .ref q2, .ref q3, .int st, .ref q4, .int ln, .int ps, .int (bi fm), .int rs, .ref q5])), (q1, .inl (cI, 314, .inl S)), (q2, .inl (cI, 314, .inl Bg)), (q3, .inl (cI, 1256, .inl Pa)), (q4, .inl (cI, 80, .inl Tx)), (q5, .inl (cI, 5, .inl Nu))] := hD
                    refine W.eq (g2 := F0 m 82 ls [.int r_36]) rfl ?_
                    refine lv_iconst (v := 1) hx hb dX9_addressOf_82 (by decide) ?_
                    refine lv_icmp_ne (tgt := 90) hx hb dX9_addressOf_83 (by decide) (fun c83 => ?_) (fun c83 => ?_)
                    · refine lv_iconst (v := 0) hx hb dX9_addressOf_90 (by decide) ?_
                      exact K_91 false _ _ ls hP hD hS (lv_sub hl [0, 1, 2] rfl) ((bd1_e hk2).trans ((if_pos (bi_o c5)).trans ((bd1_e hk4).trans ((if_pos (bi_o c15)).trans ((if_neg c22).trans ((if_neg c27).trans ((if_neg c32).trans ((if_neg c38).trans ((if_neg c53).trans ((if_neg c59).trans ((if_pos c73).trans ((bd1_e hk36).trans ((if_neg c83).trans rfl)))))))))))))
                    · refine lv_iconst (v := 1) hx hb dX9_addressOf_86 (by decide) ?_
                      refine lv_goto (tgt := 91) hx hb dX9_addressOf_87 (by decide) ?_
                      exact K_91 true _ _ ls hP hD hS (lv_sub hl [0, 1, 2] rfl) ((bd1_e hk2).trans ((if_pos (bi_o c5)).trans ((bd1_e hk4).trans ((if_pos (bi_o c15)).trans ((if_neg c22).trans ((if_neg c27).trans ((if_neg c32).trans ((if_neg c38).trans ((if_neg c53).trans ((if_neg c59).trans ((if_pos c73).trans ((bd1_e hk36).trans ((if_pos c83).trans rfl)))))))))))))
                · refine lv_aload_n hx hb dX9_addressOf_62 rfl (lv_at hl 0 rfl) ?_
                  refine lv_iload_n hx hb dX9_addressOf_63 rfl (lv_at hl 1 rfl) ?_
                  refine callVi (As := [.int address]) (rest := []) (mX9_isFixed l D cI cC cS _ o q1 q2 q3 q4 q5 S Bg Pa Tx Nu st ln ps fm rs address (ad_of (hk2.trans (bi_o c5)) ho.1)) ⟨hx, hb, hml, hown, hts⟩ (cwV 1 hts gX9_addressOf_X9_isFixed rfl rfl rfl (by decide +kernel) ⟨Nat.le_of_ble_eq_true rfl, Nat.le_of_ble_eq_true rfl⟩) X0_blind (fun _ _ _ => trivial) hP hK hD hS hA hl [0, 1, 2, 3, 4, 5] rfl rfl 0 7 rfl rfl rfl rfl rfl (Nat.le_of_ble_eq_true rfl) dX9_addressOf_64 ⟨Nat.zero_le _, Nat.zero_le _⟩ (fun _ => rfl) (fun u_ H locs hk38 hP hD hS => ?_)
                  obtain ⟨r_38, e_r_38⟩ : ∃ z, z = u_ := ⟨_, rfl⟩
                  subst e_r_38
                  have hP : va_P D vwCl [(o, .inr (7, [.ref q1, .ref q2, .ref q3, .int st, .ref q4, .int ln, .int ps, .int (bi fm), .int rs, .ref q5])), (q1, .inl (cI, 314, .inl S)), (q2, .inl (cI, 314, .inl Bg)), (q3, .inl (cI, 1256, .inl Pa)), (q4, .inl (cI, 80, .inl Tx)), (q5, .inl (cI, 5, .inl Nu))] H := hP
                  have hD : va_D Fr [(o, .inr (7, [.ref q1, .ref q2, .ref q3, .int st, .ref q4, .int ln, .int ps, .int (bi fm), .int rs, .ref q5])), (q1, .inl (cI, 314, .inl S)), (q2, .inl (cI, 314, .inl Bg)), (q3, .inl (cI, 1256, .inl Pa)), (q4, .inl (cI, 80, .inl Tx)), (q5, .inl (cI, 5, .inl Nu))] := hD
                  refine W.eq (g2 := F0 m 67 ls [.int (bi r_38)]) rfl ?_
                  refine lv_if_ne (tgt := 86) hx hb dX9_addressOf_67 (by decide) (fun c67 => ?_) (fun c67 => ?_)
                  · refine lv_iconst (v := 1) hx hb dX9_addressOf_86 (by decide) ?_
                    refine lv_goto (tgt := 91) hx hb dX9_addressOf_87 (by decide) ?_
                    exact K_91 true _ _ ls hP hD hS (lv_sub hl [0, 1, 2] rfl) ((bd1_e hk2).trans ((if_pos (bi_o c5)).trans ((bd1_e hk4).trans ((if_pos (bi_o c15)).trans ((if_neg c22).trans ((if_neg c27).trans ((if_neg c32).trans ((if_neg c38).trans ((if_neg c53).trans ((if_pos c59).trans ((bd1_e hk38).trans ((if_pos (bi_o c67)).trans rfl))))))))))))
                  · refine lv_iload_n hx hb dX9_addressOf_70 rfl (lv_at hl 2 rfl) ?_
                    refine lv_bipush (v := 8) hx hb dX9_addressOf_71 (by decide) ?_
                    refine lv_icmp_ne (tgt := 90) hx hb dX9_addressOf_73 (by decide) (fun c73 => ?_) (fun c73 => ?_)
                    · refine lv_iconst (v := 0) hx hb dX9_addressOf_90 (by decide) ?_
                      exact K_91 false _ _ ls hP hD hS (lv_sub hl [0, 1, 2] rfl) ((bd1_e hk2).trans ((if_pos (bi_o c5)).trans ((bd1_e hk4).trans ((if_pos (bi_o c15)).trans ((if_neg c22).trans ((if_neg c27).trans ((if_neg c32).trans ((if_neg c38).trans ((if_neg c53).trans ((if_pos c59).trans ((bd1_e hk38).trans ((if_neg (bi_z c67)).trans ((if_neg c73).trans rfl)))))))))))))
                    · refine lv_aload_n hx hb dX9_addressOf_76 rfl (lv_at hl 0 rfl) ?_
                      refine lv_iload_n hx hb dX9_addressOf_77 rfl (lv_at hl 1 rfl) ?_
                      refine lv_iconst (v := 1) hx hb dX9_addressOf_78 (by decide) ?_
                      refine callVi (As := [.int address, .int 1]) (rest := []) (mX9_of l D cI cC cS _ o q1 q2 q3 q4 q5 S Bg Pa Tx Nu st ln ps fm rs address 1 (ad_of (hk2.trans (bi_o c5)) ho.1) (vp_d rfl)) ⟨hx, hb, hml, hown, hts⟩ (cwV 2 hts gX9_addressOf_X9_of rfl rfl rfl (by decide +kernel) ⟨Nat.le_of_ble_eq_true rfl, Nat.le_of_ble_eq_true rfl⟩) X0_blind (fun _ _ _ => trivial) hP hK hD hS hA hl [0, 1, 2, 3, 4, 5] rfl rfl 0 7 rfl rfl rfl rfl rfl (Nat.le_of_ble_eq_true rfl) dX9_addressOf_79 ⟨Nat.zero_le _, Nat.zero_le _⟩ (fun _ => rfl) (fun u_ H locs hk40 hP hD hS => ?_)
                      obtain ⟨r_40, e_r_40⟩ : ∃ z, z = u_ := ⟨_, rfl⟩
                      subst e_r_40
                      have hP : va_P D vwCl [(o, .inr (7, [.ref q1, .ref q2, .ref q3, .int st, .ref q4, .int ln, .int ps, .int (bi fm), .int rs, .ref q5])), (q1, .inl (cI, 314, .inl S)), (q2, .inl (cI, 314, .inl Bg)), (q3, .inl (cI, 1256, .inl Pa)), (q4, .inl (cI, 80, .inl Tx)), (q5, .inl (cI, 5, .inl Nu))] H := hP
                      have hD : va_D Fr [(o, .inr (7, [.ref q1, .ref q2, .ref q3, .int st, .ref q4, .int ln, .int ps, .int (bi fm), .int rs, .ref q5])), (q1, .inl (cI, 314, .inl S)), (q2, .inl (cI, 314, .inl Bg)), (q3, .inl (cI, 1256, .inl Pa)), (q4, .inl (cI, 80, .inl Tx)), (q5, .inl (cI, 5, .inl Nu))] := hD
                      refine W.eq (g2 := F0 m 82 ls [.int r_40]) rfl ?_
                      refine lv_iconst (v := 1) hx hb dX9_addressOf_82 (by decide) ?_
                      refine lv_icmp_ne (tgt := 90) hx hb dX9_addressOf_83 (by decide) (fun c83 => ?_) (fun c83 => ?_)
                      · refine lv_iconst (v := 0) hx hb dX9_addressOf_90 (by decide) ?_
                        exact K_91 false _ _ ls hP hD hS (lv_sub hl [0, 1, 2] rfl) ((bd1_e hk2).trans ((if_pos (bi_o c5)).trans ((bd1_e hk4).trans ((if_pos (bi_o c15)).trans ((if_neg c22).trans ((if_neg c27).trans ((if_neg c32).trans ((if_neg c38).trans ((if_neg c53).trans ((if_pos c59).trans ((bd1_e hk38).trans ((if_neg (bi_z c67)).trans ((if_pos c73).trans ((bd1_e hk40).trans ((if_neg c83).trans rfl)))))))))))))))
                      · refine lv_iconst (v := 1) hx hb dX9_addressOf_86 (by decide) ?_
                        refine lv_goto (tgt := 91) hx hb dX9_addressOf_87 (by decide) ?_
                        exact K_91 true _ _ ls hP hD hS (lv_sub hl [0, 1, 2] rfl) ((bd1_e hk2).trans ((if_pos (bi_o c5)).trans ((bd1_e hk4).trans ((if_pos (bi_o c15)).trans ((if_neg c22).trans ((if_neg c27).trans ((if_neg c32).trans ((if_neg c38).trans ((if_neg c53).trans ((if_pos c59).trans ((bd1_e hk38).trans ((if_neg (bi_z c67)).trans ((if_pos c73).trans ((bd1_e hk40).trans ((if_pos c83).trans rfl)))))))))))))))
            · refine lv_aload_n hx hb dX9_addressOf_41 rfl (lv_at hl 0 rfl) ?_
              refine lv_iload_n hx hb dX9_addressOf_42 rfl (lv_at hl 1 rfl) ?_
              refine lv_iconst (v := 2) hx hb dX9_addressOf_43 (by decide) ?_
              refine callVi (As := [.int address, .int 2]) (rest := []) (mX9_of l D cI cC cS _ o q1 q2 q3 q4 q5 S Bg Pa Tx Nu st ln ps fm rs address 2 (ad_of (hk2.trans (bi_o c5)) ho.1) (vp_d rfl)) ⟨hx, hb, hml, hown, hts⟩ (cwV 2 hts gX9_addressOf_X9_of rfl rfl rfl (by decide +kernel) ⟨Nat.le_of_ble_eq_true rfl, Nat.le_of_ble_eq_true rfl⟩) X0_blind (fun _ _ _ => trivial) hP hK hD hS hA hl [0, 1, 2, 3, 4, 5] rfl rfl 0 7 rfl rfl rfl rfl rfl (Nat.le_of_ble_eq_true rfl) dX9_addressOf_44 ⟨Nat.zero_le _, Nat.zero_le _⟩ (fun _ => rfl) (fun u_ H locs hk42 hP hD hS => ?_)
              obtain ⟨r_42, e_r_42⟩ : ∃ z, z = u_ := ⟨_, rfl⟩
              subst e_r_42
              have hP : va_P D vwCl [(o, .inr (7, [.ref q1, .ref q2, .ref q3, .int st, .ref q4, .int ln, .int ps, .int (bi fm), .int rs, .ref q5])), (q1, .inl (cI, 314, .inl S)), (q2, .inl (cI, 314, .inl Bg)), (q3, .inl (cI, 1256, .inl Pa)), (q4, .inl (cI, 80, .inl Tx)), (q5, .inl (cI, 5, .inl Nu))] H := hP
              have hD : va_D Fr [(o, .inr (7, [.ref q1, .ref q2, .ref q3, .int st, .ref q4, .int ln, .int ps, .int (bi fm), .int rs, .ref q5])), (q1, .inl (cI, 314, .inl S)), (q2, .inl (cI, 314, .inl Bg)), (q3, .inl (cI, 1256, .inl Pa)), (q4, .inl (cI, 80, .inl Tx)), (q5, .inl (cI, 5, .inl Nu))] := hD
              refine W.eq (g2 := F0 m 47 ls [.int r_42]) rfl ?_
              refine lv_if_gt (tgt := 86) hx hb dX9_addressOf_47 (by decide) (fun c47 => ?_) (fun c47 => ?_)
              · refine lv_iconst (v := 1) hx hb dX9_addressOf_86 (by decide) ?_
                refine lv_goto (tgt := 91) hx hb dX9_addressOf_87 (by decide) ?_
                exact K_91 true _ _ ls hP hD hS (lv_sub hl [0, 1, 2] rfl) ((bd1_e hk2).trans ((if_pos (bi_o c5)).trans ((bd1_e hk4).trans ((if_pos (bi_o c15)).trans ((if_neg c22).trans ((if_neg c27).trans ((if_neg c32).trans ((if_pos c38).trans ((bd1_e hk42).trans ((if_pos c47).trans rfl))))))))))
              · refine lv_iload_n hx hb dX9_addressOf_50 rfl (lv_at hl 2 rfl) ?_
                refine lv_bipush (v := 6) hx hb dX9_addressOf_51 (by decide) ?_
                refine lv_icmp_eq (tgt := 62) hx hb dX9_addressOf_53 (by decide) (fun c53 => ?_) (fun c53 => ?_)
                · refine lv_aload_n hx hb dX9_addressOf_62 rfl (lv_at hl 0 rfl) ?_
                  refine lv_iload_n hx hb dX9_addressOf_63 rfl (lv_at hl 1 rfl) ?_
                  refine callVi (As := [.int address]) (rest := []) (mX9_isFixed l D cI cC cS _ o q1 q2 q3 q4 q5 S Bg Pa Tx Nu st ln ps fm rs address (ad_of (hk2.trans (bi_o c5)) ho.1)) ⟨hx, hb, hml, hown, hts⟩ (cwV 1 hts gX9_addressOf_X9_isFixed rfl rfl rfl (by decide +kernel) ⟨Nat.le_of_ble_eq_true rfl, Nat.le_of_ble_eq_true rfl⟩) X0_blind (fun _ _ _ => trivial) hP hK hD hS hA hl [0, 1, 2, 3, 4, 5] rfl rfl 0 7 rfl rfl rfl rfl rfl (Nat.le_of_ble_eq_true rfl) dX9_addressOf_64 ⟨Nat.zero_le _, Nat.zero_le _⟩ (fun _ => rfl) (fun u_ H locs hk44 hP hD hS => ?_)
                  obtain ⟨r_44, e_r_44⟩ : ∃ z, z = u_ := ⟨_, rfl⟩
                  subst e_r_44
                  have hP : va_P D vwCl [(o, .inr (7, [.ref q1, .ref q2, .ref q3, .int st, .ref q4, .int ln, .int ps, .int (bi fm), .int rs, .ref q5])), (q1, .inl (cI, 314, .inl S)), (q2, .inl (cI, 314, .inl Bg)), (q3, .inl (cI, 1256, .inl Pa)), (q4, .inl (cI, 80, .inl Tx)), (q5, .inl (cI, 5, .inl Nu))] H := hP
                  have hD : va_D Fr [(o, .inr (7, [.ref q1, .ref q2, .ref q3, .int st, .ref q4, .int ln, .int ps, .int (bi fm), .int rs, .ref q5])), (q1, .inl (cI, 314, .inl S)), (q2, .inl (cI, 314, .inl Bg)), (q3, .inl (cI, 1256, .inl Pa)), (q4, .inl (cI, 80, .inl Tx)), (q5, .inl (cI, 5, .inl Nu))] := hD
                  refine W.eq (g2 := F0 m 67 ls [.int (bi r_44)]) rfl ?_
                  refine lv_if_ne (tgt := 86) hx hb dX9_addressOf_67 (by decide) (fun c67 => ?_) (fun c67 => ?_)
                  · refine lv_iconst (v := 1) hx hb dX9_addressOf_86 (by decide) ?_
                    refine lv_goto (tgt := 91) hx hb dX9_addressOf_87 (by decide) ?_
                    exact K_91 true _ _ ls hP hD hS (lv_sub hl [0, 1, 2] rfl) ((bd1_e hk2).trans ((if_pos (bi_o c5)).trans ((bd1_e hk4).trans ((if_pos (bi_o c15)).trans ((if_neg c22).trans ((if_neg c27).trans ((if_neg c32).trans ((if_pos c38).trans ((bd1_e hk42).trans ((if_neg c47).trans ((if_pos c53).trans ((bd1_e hk44).trans ((if_pos (bi_o c67)).trans rfl)))))))))))))
                  · refine lv_iload_n hx hb dX9_addressOf_70 rfl (lv_at hl 2 rfl) ?_
                    refine lv_bipush (v := 8) hx hb dX9_addressOf_71 (by decide) ?_
                    refine lv_icmp_ne (tgt := 90) hx hb dX9_addressOf_73 (by decide) (fun c73 => ?_) (fun c73 => ?_)
                    · refine lv_iconst (v := 0) hx hb dX9_addressOf_90 (by decide) ?_
                      exact K_91 false _ _ ls hP hD hS (lv_sub hl [0, 1, 2] rfl) ((bd1_e hk2).trans ((if_pos (bi_o c5)).trans ((bd1_e hk4).trans ((if_pos (bi_o c15)).trans ((if_neg c22).trans ((if_neg c27).trans ((if_neg c32).trans ((if_pos c38).trans ((bd1_e hk42).trans ((if_neg c47).trans ((if_pos c53).trans ((bd1_e hk44).trans ((if_neg (bi_z c67)).trans ((if_neg c73).trans rfl))))))))))))))
                    · refine lv_aload_n hx hb dX9_addressOf_76 rfl (lv_at hl 0 rfl) ?_
                      refine lv_iload_n hx hb dX9_addressOf_77 rfl (lv_at hl 1 rfl) ?_
                      refine lv_iconst (v := 1) hx hb dX9_addressOf_78 (by decide) ?_
                      refine callVi (As := [.int address, .int 1]) (rest := []) (mX9_of l D cI cC cS _ o q1 q2 q3 q4 q5 S Bg Pa Tx Nu st ln ps fm rs address 1 (ad_of (hk2.trans (bi_o c5)) ho.1) (vp_d rfl)) ⟨hx, hb, hml, hown, hts⟩ (cwV 2 hts gX9_addressOf_X9_of rfl rfl rfl (by decide +kernel) ⟨Nat.le_of_ble_eq_true rfl, Nat.le_of_ble_eq_true rfl⟩) X0_blind (fun _ _ _ => trivial) hP hK hD hS hA hl [0, 1, 2, 3, 4, 5] rfl rfl 0 7 rfl rfl rfl rfl rfl (Nat.le_of_ble_eq_true rfl) dX9_addressOf_79 ⟨Nat.zero_le _, Nat.zero_le _⟩ (fun _ => rfl) (fun u_ H locs hk46 hP hD hS => ?_)
                      obtain ⟨r_46, e_r_46⟩ : ∃ z, z = u_ := ⟨_, rfl⟩
                      subst e_r_46
                      have hP : va_P D vwCl [(o, .inr (7, [.ref q1, .ref q2, .ref q3, .int st, .ref q4, .int ln, .int ps, .int (bi fm), .int rs, .ref q5])), (q1, .inl (cI, 314, .inl S)), (q2, .inl (cI, 314, .inl Bg)), (q3, .inl (cI, 1256, .inl Pa)), (q4, .inl (cI, 80, .inl Tx)), (q5, .inl (cI, 5, .inl Nu))] H := hP
                      have hD : va_D Fr [(o, .inr (7, [.ref q1, .ref q2, .ref q3, .int st, .ref q4, .int ln, .int ps, .int (bi fm), .int rs, .ref q5])), (q1, .inl (cI, 314, .inl S)), (q2, .inl (cI, 314, .inl Bg)), (q3, .inl (cI, 1256, .inl Pa)), (q4, .inl (cI, 80, .inl Tx)), (q5, .inl (cI, 5, .inl Nu))] := hD
                      refine W.eq (g2 := F0 m 82 ls [.int r_46]) rfl ?_
                      refine lv_iconst (v := 1) hx hb dX9_addressOf_82 (by decide) ?_
                      refine lv_icmp_ne (tgt := 90) hx hb dX9_addressOf_83 (by decide) (fun c83 => ?_) (fun c83 => ?_)
                      · refine lv_iconst (v := 0) hx hb dX9_addressOf_90 (by decide) ?_
                        exact K_91 false _ _ ls hP hD hS (lv_sub hl [0, 1, 2] rfl) ((bd1_e hk2).trans ((if_pos (bi_o c5)).trans ((bd1_e hk4).trans ((if_pos (bi_o c15)).trans ((if_neg c22).trans ((if_neg c27).trans ((if_neg c32).trans ((if_pos c38).trans ((bd1_e hk42).trans ((if_neg c47).trans ((if_pos c53).trans ((bd1_e hk44).trans ((if_neg (bi_z c67)).trans ((if_pos c73).trans ((bd1_e hk46).trans ((if_neg c83).trans rfl))))))))))))))))
                      · refine lv_iconst (v := 1) hx hb dX9_addressOf_86 (by decide) ?_
                        refine lv_goto (tgt := 91) hx hb dX9_addressOf_87 (by decide) ?_
                        exact K_91 true _ _ ls hP hD hS (lv_sub hl [0, 1, 2] rfl) ((bd1_e hk2).trans ((if_pos (bi_o c5)).trans ((bd1_e hk4).trans ((if_pos (bi_o c15)).trans ((if_neg c22).trans ((if_neg c27).trans ((if_neg c32).trans ((if_pos c38).trans ((bd1_e hk42).trans ((if_neg c47).trans ((if_pos c53).trans ((bd1_e hk44).trans ((if_neg (bi_z c67)).trans ((if_pos c73).trans ((bd1_e hk46).trans ((if_pos c83).trans rfl))))))))))))))))
                · refine lv_iload_n hx hb dX9_addressOf_56 rfl (lv_at hl 2 rfl) ?_
                  refine lv_bipush (v := 7) hx hb dX9_addressOf_57 (by decide) ?_
                  refine lv_icmp_ne (tgt := 70) hx hb dX9_addressOf_59 (by decide) (fun c59 => ?_) (fun c59 => ?_)
                  · refine lv_iload_n hx hb dX9_addressOf_70 rfl (lv_at hl 2 rfl) ?_
                    refine lv_bipush (v := 8) hx hb dX9_addressOf_71 (by decide) ?_
                    refine lv_icmp_ne (tgt := 90) hx hb dX9_addressOf_73 (by decide) (fun c73 => ?_) (fun c73 => ?_)
                    · refine lv_iconst (v := 0) hx hb dX9_addressOf_90 (by decide) ?_
                      exact K_91 false _ _ ls hP hD hS (lv_sub hl [0, 1, 2] rfl) ((bd1_e hk2).trans ((if_pos (bi_o c5)).trans ((bd1_e hk4).trans ((if_pos (bi_o c15)).trans ((if_neg c22).trans ((if_neg c27).trans ((if_neg c32).trans ((if_pos c38).trans ((bd1_e hk42).trans ((if_neg c47).trans ((if_neg c53).trans ((if_neg c59).trans ((if_neg c73).trans rfl)))))))))))))
                    · refine lv_aload_n hx hb dX9_addressOf_76 rfl (lv_at hl 0 rfl) ?_
                      refine lv_iload_n hx hb dX9_addressOf_77 rfl (lv_at hl 1 rfl) ?_
                      refine lv_iconst (v := 1) hx hb dX9_addressOf_78 (by decide) ?_
                      refine callVi (As := [.int address, .int 1]) (rest := []) (mX9_of l D cI cC cS _ o q1 q2 q3 q4 q5 S Bg Pa Tx Nu st ln ps fm rs address 1 (ad_of (hk2.trans (bi_o c5)) ho.1) (vp_d rfl)) ⟨hx, hb, hml, hown, hts⟩ (cwV 2 hts gX9_addressOf_X9_of rfl rfl rfl (by decide +kernel) ⟨Nat.le_of_ble_eq_true rfl, Nat.le_of_ble_eq_true rfl⟩) X0_blind (fun _ _ _ => trivial) hP hK hD hS hA hl [0, 1, 2, 3, 4, 5] rfl rfl 0 7 rfl rfl rfl rfl rfl (Nat.le_of_ble_eq_true rfl) dX9_addressOf_79 ⟨Nat.zero_le _, Nat.zero_le _⟩ (fun _ => rfl) (fun u_ H locs hk48 hP hD hS => ?_)
                      obtain ⟨r_48, e_r_48⟩ : ∃ z, z = u_ := ⟨_, rfl⟩
                      subst e_r_48
                      have hP : va_P D vwCl [(o, .inr (7, [.ref q1, .ref q2, .ref q3, .int st, .ref q4, .int ln, .int ps, .int (bi fm), .int rs, .ref q5])), (q1, .inl (cI, 314, .inl S)), (q2, .inl (cI, 314, .inl Bg)), (q3, .inl (cI, 1256, .inl Pa)), (q4, .inl (cI, 80, .inl Tx)), (q5, .inl (cI, 5, .inl Nu))] H := hP
                      have hD : va_D Fr [(o, .inr (7, [.ref q1, .ref q2, .ref q3, .int st, .ref q4, .int ln, .int ps, .int (bi fm), .int rs, .ref q5])), (q1, .inl (cI, 314, .inl S)), (q2, .inl (cI, 314, .inl Bg)), (q3, .inl (cI, 1256, .inl Pa)), (q4, .inl (cI, 80, .inl Tx)), (q5, .inl (cI, 5, .inl Nu))] := hD
                      refine W.eq (g2 := F0 m 82 ls [.int r_48]) rfl ?_
                      refine lv_iconst (v := 1) hx hb dX9_addressOf_82 (by decide) ?_
                      refine lv_icmp_ne (tgt := 90) hx hb dX9_addressOf_83 (by decide) (fun c83 => ?_) (fun c83 => ?_)
                      · refine lv_iconst (v := 0) hx hb dX9_addressOf_90 (by decide) ?_
                        exact K_91 false _ _ ls hP hD hS (lv_sub hl [0, 1, 2] rfl) ((bd1_e hk2).trans ((if_pos (bi_o c5)).trans ((bd1_e hk4).trans ((if_pos (bi_o c15)).trans ((if_neg c22).trans ((if_neg c27).trans ((if_neg c32).trans ((if_pos c38).trans ((bd1_e hk42).trans ((if_neg c47).trans ((if_neg c53).trans ((if_neg c59).trans ((if_pos c73).trans ((bd1_e hk48).trans ((if_neg c83).trans rfl)))))))))))))))
                      · refine lv_iconst (v := 1) hx hb dX9_addressOf_86 (by decide) ?_
                        refine lv_goto (tgt := 91) hx hb dX9_addressOf_87 (by decide) ?_
                        exact K_91 true _ _ ls hP hD hS (lv_sub hl [0, 1, 2] rfl) ((bd1_e hk2).trans ((if_pos (bi_o c5)).trans ((bd1_e hk4).trans ((if_pos (bi_o c15)).trans ((if_neg c22).trans ((if_neg c27).trans ((if_neg c32).trans ((if_pos c38).trans ((bd1_e hk42).trans ((if_neg c47).trans ((if_neg c53).trans ((if_neg c59).trans ((if_pos c73).trans ((bd1_e hk48).trans ((if_pos c83).trans rfl)))))))))))))))
                  · refine lv_aload_n hx hb dX9_addressOf_62 rfl (lv_at hl 0 rfl) ?_
                    refine lv_iload_n hx hb dX9_addressOf_63 rfl (lv_at hl 1 rfl) ?_
                    refine callVi (As := [.int address]) (rest := []) (mX9_isFixed l D cI cC cS _ o q1 q2 q3 q4 q5 S Bg Pa Tx Nu st ln ps fm rs address (ad_of (hk2.trans (bi_o c5)) ho.1)) ⟨hx, hb, hml, hown, hts⟩ (cwV 1 hts gX9_addressOf_X9_isFixed rfl rfl rfl (by decide +kernel) ⟨Nat.le_of_ble_eq_true rfl, Nat.le_of_ble_eq_true rfl⟩) X0_blind (fun _ _ _ => trivial) hP hK hD hS hA hl [0, 1, 2, 3, 4, 5] rfl rfl 0 7 rfl rfl rfl rfl rfl (Nat.le_of_ble_eq_true rfl) dX9_addressOf_64 ⟨Nat.zero_le _, Nat.zero_le _⟩ (fun _ => rfl) (fun u_ H locs hk50 hP hD hS => ?_)
                    obtain ⟨r_50, e_r_50⟩ : ∃ z, z = u_ := ⟨_, rfl⟩
                    subst e_r_50
                    have hP : va_P D vwCl [(o, .inr (7, [.ref q1, .ref q2, .ref q3, .int st, .ref q4, .int ln, .int ps, .int (bi fm), .int rs, .ref q5])), (q1, .inl (cI, 314, .inl S)), (q2, .inl (cI, 314, .inl Bg)), (q3, .inl (cI, 1256, .inl Pa)), (q4, .inl (cI, 80, .inl Tx)), (q5, .inl (cI, 5, .inl Nu))] H := hP
                    have hD : va_D Fr [(o, .inr (7, [.ref q1, .ref q2, .ref q3, .int st, .ref q4, .int ln, .int ps, .int (bi fm), .int rs, .ref q5])), (q1, .inl (cI, 314, .inl S)), (q2, .inl (cI, 314, .inl Bg)), (q3, .inl (cI, 1256, .inl Pa)), (q4, .inl (cI, 80, .inl Tx)), (q5, .inl (cI, 5, .inl Nu))] := hD
                    refine W.eq (g2 := F0 m 67 ls [.int (bi r_50)]) rfl ?_
                    refine lv_if_ne (tgt := 86) hx hb dX9_addressOf_67 (by decide) (fun c67 => ?_) (fun c67 => ?_)
                    · refine lv_iconst (v := 1) hx hb dX9_addressOf_86 (by decide) ?_
                      refine lv_goto (tgt := 91) hx hb dX9_addressOf_87 (by decide) ?_
                      exact K_91 true _ _ ls hP hD hS (lv_sub hl [0, 1, 2] rfl) ((bd1_e hk2).trans ((if_pos (bi_o c5)).trans ((bd1_e hk4).trans ((if_pos (bi_o c15)).trans ((if_neg c22).trans ((if_neg c27).trans ((if_neg c32).trans ((if_pos c38).trans ((bd1_e hk42).trans ((if_neg c47).trans ((if_neg c53).trans ((if_pos c59).trans ((bd1_e hk50).trans ((if_pos (bi_o c67)).trans rfl))))))))))))))
                    · refine lv_iload_n hx hb dX9_addressOf_70 rfl (lv_at hl 2 rfl) ?_
                      refine lv_bipush (v := 8) hx hb dX9_addressOf_71 (by decide) ?_
                      refine lv_icmp_ne (tgt := 90) hx hb dX9_addressOf_73 (by decide) (fun c73 => ?_) (fun c73 => ?_)
                      · refine lv_iconst (v := 0) hx hb dX9_addressOf_90 (by decide) ?_
                        exact K_91 false _ _ ls hP hD hS (lv_sub hl [0, 1, 2] rfl) ((bd1_e hk2).trans ((if_pos (bi_o c5)).trans ((bd1_e hk4).trans ((if_pos (bi_o c15)).trans ((if_neg c22).trans ((if_neg c27).trans ((if_neg c32).trans ((if_pos c38).trans ((bd1_e hk42).trans ((if_neg c47).trans ((if_neg c53).trans ((if_pos c59).trans ((bd1_e hk50).trans ((if_neg (bi_z c67)).trans ((if_neg c73).trans rfl)))))))))))))))
                      · refine lv_aload_n hx hb dX9_addressOf_76 rfl (lv_at hl 0 rfl) ?_
                        refine lv_iload_n hx hb dX9_addressOf_77 rfl (lv_at hl 1 rfl) ?_
                        refine lv_iconst (v := 1) hx hb dX9_addressOf_78 (by decide) ?_
                        refine callVi (As := [.int address, .int 1]) (rest := []) (mX9_of l D cI cC cS _ o q1 q2 q3 q4 q5 S Bg Pa Tx Nu st ln ps fm rs address 1 (ad_of (hk2.trans (bi_o c5)) ho.1) (vp_d rfl)) ⟨hx, hb, hml, hown, hts⟩ (cwV 2 hts gX9_addressOf_X9_of rfl rfl rfl (by decide +kernel) ⟨Nat.le_of_ble_eq_true rfl, Nat.le_of_ble_eq_true rfl⟩) X0_blind (fun _ _ _ => trivial) hP hK hD hS hA hl [0, 1, 2, 3, 4, 5] rfl rfl 0 7 rfl rfl rfl rfl rfl (Nat.le_of_ble_eq_true rfl) dX9_addressOf_79 ⟨Nat.zero_le _, Nat.zero_le _⟩ (fun _ => rfl) (fun u_ H locs hk52 hP hD hS => ?_)
                        obtain ⟨r_52, e_r_52⟩ : ∃ z, z = u_ := ⟨_, rfl⟩
                        subst e_r_52
                        have hP : va_P D vwCl [(o, .inr (7, [.ref q1, .ref q2, .ref q3, .int st, .ref q4, .int ln, .int ps, .int (bi fm), .int rs, .ref q5])), (q1, .inl (cI, 314, .inl S)), (q2, .inl (cI, 314, .inl Bg)), (q3, .inl (cI, 1256, .inl Pa)), (q4, .inl (cI, 80, .inl Tx)), (q5, .inl (cI, 5, .inl Nu))] H := hP
                        have hD : va_D Fr [(o, .inr (7, [.ref q1, .ref q2, .ref q3, .int st, .ref q4, .int ln, .int ps, .int (bi fm), .int rs, .ref q5])), (q1, .inl (cI, 314, .inl S)), (q2, .inl (cI, 314, .inl Bg)), (q3, .inl (cI, 1256, .inl Pa)), (q4, .inl (cI, 80, .inl Tx)), (q5, .inl (cI, 5, .inl Nu))] := hD
                        refine W.eq (g2 := F0 m 82 ls [.int r_52]) rfl ?_
                        refine lv_iconst (v := 1) hx hb dX9_addressOf_82 (by decide) ?_
                        refine lv_icmp_ne (tgt := 90) hx hb dX9_addressOf_83 (by decide) (fun c83 => ?_) (fun c83 => ?_)
                        · refine lv_iconst (v := 0) hx hb dX9_addressOf_90 (by decide) ?_
                          exact K_91 false _ _ ls hP hD hS (lv_sub hl [0, 1, 2] rfl) ((bd1_e hk2).trans ((if_pos (bi_o c5)).trans ((bd1_e hk4).trans ((if_pos (bi_o c15)).trans ((if_neg c22).trans ((if_neg c27).trans ((if_neg c32).trans ((if_pos c38).trans ((bd1_e hk42).trans ((if_neg c47).trans ((if_neg c53).trans ((if_pos c59).trans ((bd1_e hk50).trans ((if_neg (bi_z c67)).trans ((if_pos c73).trans ((bd1_e hk52).trans ((if_neg c83).trans rfl)))))))))))))))))
                        · refine lv_iconst (v := 1) hx hb dX9_addressOf_86 (by decide) ?_
                          refine lv_goto (tgt := 91) hx hb dX9_addressOf_87 (by decide) ?_
                          exact K_91 true _ _ ls hP hD hS (lv_sub hl [0, 1, 2] rfl) ((bd1_e hk2).trans ((if_pos (bi_o c5)).trans ((bd1_e hk4).trans ((if_pos (bi_o c15)).trans ((if_neg c22).trans ((if_neg c27).trans ((if_neg c32).trans ((if_pos c38).trans ((bd1_e hk42).trans ((if_neg c47).trans ((if_neg c53).trans ((if_pos c59).trans ((bd1_e hk50).trans ((if_neg (bi_z c67)).trans ((if_pos c73).trans ((bd1_e hk52).trans ((if_pos c83).trans rfl)))))))))))))))))
    · refine lv_iconst (v := (-1)) hx hb dX9_addressOf_18 (by decide) ?_
      exact endI hx hb hr hlk hP hK hD hS dX9_addressOf_19 (-1) rfl ⟨(bd1_e hk2).trans ((if_pos (bi_o c5)).trans ((bd1_e hk4).trans ((if_neg (bi_z c15)).trans rfl))), rfl⟩


/-- the loop of X9_passes at 41 -/
def fX9_passes_41 (S : Nat → Int32) (days : Int32) : Nat → Int32 → (Nat → Int32) → Int32 × (Nat → Int32)
  | 0, _, _ => default
  | fu + 1, x2, Q =>
    (if Q 1 ≤ x2 then (Q 2, Q) else fX9_passes_41 S days fu (x2 + 1) (upd Q ((44 + (6 * x2)) + 2).toNatClampNeg 0))
theorem fX9_passes_41_s (S : Nat → Int32) (days : Int32) (fu : Nat) (x2 : Int32) (Q : Nat → Int32) : fX9_passes_41 S days (fu + 1) x2 Q =
    (if Q 1 ≤ x2 then (Q 2, Q) else fX9_passes_41 S days fu (x2 + 1) (upd Q ((44 + (6 * x2)) + 2).toNatClampNeg 0)) := rfl

/-- the value of X9_passes, path by path -/
def fX9_passes (S : Nat → Int32) (days : Int32) : Int32 × (Nat → Int32) :=
  bd1 (fX9_in days 1 99) (fun (r_2 : Bool) => (if r_2 = true then (if (S 2) + days ≤ 999 then fX9_passes_41 S days (((S 1).toInt - (0 : Int32).toInt).toNat + 1) 0 (upd S 2 ((S 2) + days)) else ((-3), S)) else ((-1), S)))

set_option maxHeartbeats 4000000 in
set_option maxRecDepth 100000 in
/-- X9_passes -/
theorem mX9_passes (l : Launch) (D : va_G) (cI cC cS : ClassId) (sz : Nat) (o : Nat) (q1 : Nat) (q2 : Nat) (q3 : Nat) (q4 : Nat) (q5 : Nat) (S : Nat → Int32) (Bg : Nat → Int32) (Pa : Nat → Int32) (Tx : Nat → Int32) (Nu : Nat → Int32) (st : Int32) (ln : Int32) (ps : Int32) (fm : Bool) (rs : Int32) (days : Int32) (hs : vp_in (S 1) 6) : Met l yX9_passes wsX9_passes ({ frames := 1, cells := 0, slots := 0, locals := 22 } : Jvm.Room) (va_Pc [.ref o, .int days] (wPre D (TY cI cC cS) [(o, .inr (7, [.ref q1, .ref q2, .ref q3, .int st, .ref q4, .int ln, .int ps, .int (bi fm), .int rs, .ref q5])), (q1, .inl (cI, 314, .inl S)), (q2, .inl (cI, 314, .inl Bg)), (q3, .inl (cI, 1256, .inl Pa)), (q4, .inl (cI, 80, .inl Tx)), (q5, .inl (cI, 5, .inl Nu))] sz X0)) (qI D (TY cI cC cS) (fun (r : Int32) (u : Int32 × (Nat → Int32)) => fX9_passes S days = u ∧ r = u.1) (fun u => [(o, .inr (7, [.ref q1, .ref q2, .ref q3, .int st, .ref q4, .int ln, .int ps, .int (bi fm), .int rs, .ref q5])), (q1, .inl (cI, 314, .inl u.2)), (q2, .inl (cI, 314, .inl Bg)), (q3, .inl (cI, 1256, .inl Pa)), (q4, .inl (cI, 80, .inl Tx)), (q5, .inl (cI, 5, .inl Nu))]) (va_A [(o, .inr (7, [.ref q1, .ref q2, .ref q3, .int st, .ref q4, .int ln, .int ps, .int (bi fm), .int rs, .ref q5])), (q1, .inl (cI, 314, .inl S)), (q2, .inl (cI, 314, .inl Bg)), (q3, .inl (cI, 1256, .inl Pa)), (q4, .inl (cI, 80, .inl Tx)), (q5, .inl (cI, 5, .inl Nu))] sz)) 0 0 (va_A [(o, .inr (7, [.ref q1, .ref q2, .ref q3, .int st, .ref q4, .int ln, .int ps, .int (bi fm), .int rs, .ref q5])), (q1, .inl (cI, 314, .inl S)), (q2, .inl (cI, 314, .inl Bg)), (q3, .inl (cI, 1256, .inl Pa)), (q4, .inl (cI, 80, .inl Tx)), (q5, .inl (cI, 5, .inl Nu))] sz) := by
  refine mkM (fun Fr => qI D (TY cI cC cS) (fun (r : Int32) (u : Int32 × (Nat → Int32)) => fX9_passes S days = u ∧ r = u.1) (fun u => [(o, .inr (7, [.ref q1, .ref q2, .ref q3, .int st, .ref q4, .int ln, .int ps, .int (bi fm), .int rs, .ref q5])), (q1, .inl (cI, 314, .inl u.2)), (q2, .inl (cI, 314, .inl Bg)), (q3, .inl (cI, 1256, .inl Pa)), (q4, .inl (cI, 80, .inl Tx)), (q5, .inl (cI, 5, .inl Nu))]) Fr) (cc := cX9_passes) (maxL := 3) (ret := (some .int)) (own := RX9) (lv := [(0, .ref o), (1, .int days)]) (by decide) rfl rfl (Nat.le_of_ble_eq_true rfl) rfl ?_
  intro p e s m below meth c Fr ls hx hb hr hts hown hml hlk hin hP hK hD hS hA hAe hsz hX hl
  have w_1 := hts (.fieldLink RX9 7 "FieldQuotasModel" "s" "[I") (List.mem_of_getElem? (i := 1) rfl)
  have w_2 := sub_r (big := wsX9_passes) (u_ws RX9 TX9 10) [6, 7, 8, 9, 10, 11, 12, 13, 14, 15] rfl
  refine lv_iload_n hx hb dX9_passes_0 rfl (lv_at hl 1 rfl) ?_
  refine lv_iconst (v := 1) hx hb dX9_passes_1 (by decide) ?_
  refine lv_bipush (v := 99) hx hb dX9_passes_2 (by decide) ?_
  refine callSi (As := [.int days, .int 1, .int 99]) (rest := []) (mX9_in l D cI cC cS _ days 1 99) ⟨hx, hb, hml, hown, hts⟩ (va_cwS 3 hts gX9_passes_X9_in rfl rfl rfl (by decide +kernel) ⟨Nat.le_of_ble_eq_true rfl, Nat.le_of_ble_eq_true rfl⟩) hP hK hD hS hA hl rfl rfl (Nat.le_of_ble_eq_true rfl) dX9_passes_4 ⟨Nat.zero_le _, Nat.zero_le _⟩ (fun u_ H locs hk2 hP hS => ?_)
  obtain ⟨r_2, e_r_2⟩ : ∃ z, z = u_ := ⟨_, rfl⟩
  subst e_r_2
  refine W.eq (g2 := F0 m 7 ls [.int (bi r_2)]) rfl ?_
  refine lv_if_ne (tgt := 12) hx hb dX9_passes_7 (by decide) (fun c7 => ?_) (fun c7 => ?_)
  · refine lv_aload_n hx hb dX9_passes_12 rfl (lv_at hl 0 rfl) ?_
    refine va_get (D := D) (ci := 7) (C := RX9) (T := TX9) (N := 10) hx hb hts w_2 hown hK hP 0 rfl rfl 0 (by decide) w_1 (fun _ h9 => h9) rfl dX9_passes_13 ?_
    refine lv_iconst (v := 2) hx hb dX9_passes_16 (by decide) ?_
    refine va_iald hx hb hK hP 1 0 rfl rfl (vp_d rfl) dX9_passes_17 ?_
    refine W.eq (g2 := F0 m 18 ls [.int (S 2)]) rfl ?_
    refine lv_iload_n hx hb dX9_passes_18 rfl (lv_at hl 1 rfl) ?_
    refine lv_iadd hx hb dX9_passes_19 ?_
    refine lv_sipush (v := 999) hx hb dX9_passes_20 (by decide) ?_
    refine lv_icmp_le (tgt := 29) hx hb dX9_passes_23 (by decide) (fun c23 => ?_) (fun c23 => ?_)
    · refine lv_aload_n hx hb dX9_passes_29 rfl (lv_at hl 0 rfl) ?_
      refine va_get (D := D) (ci := 7) (C := RX9) (T := TX9) (N := 10) hx hb hts w_2 hown hK hP 0 rfl rfl 0 (by decide) w_1 (fun _ h9 => h9) rfl dX9_passes_30 ?_
      refine lv_iconst (v := 2) hx hb dX9_passes_33 (by decide) ?_
      refine lv_dup2_11 hx hb dX9_passes_34 rfl rfl ?_
      refine va_iald hx hb hK hP 1 0 rfl rfl (vp_d rfl) dX9_passes_35 ?_
      refine W.eq (g2 := F0 m 36 ls [.int (S 2), .int 2, .ref q1]) rfl ?_
      refine lv_iload_n hx hb dX9_passes_36 rfl (lv_at hl 1 rfl) ?_
      refine lv_iadd hx hb dX9_passes_37 ?_
      refine va_iast hx hb hK hP hD hS 1 0 rfl rfl (vp_d rfl) dX9_passes_38 (fun H locs hP hD hS => ?_)
      have hP : va_P D vwCl [(o, .inr (7, [.ref q1, .ref q2, .ref q3, .int st, .ref q4, .int ln, .int ps, .int (bi fm), .int rs, .ref q5])), (q1, .inl (cI, 314, .inl (upd S 2 ((S 2) + days)))), (q2, .inl (cI, 314, .inl Bg)), (q3, .inl (cI, 1256, .inl Pa)), (q4, .inl (cI, 80, .inl Tx)), (q5, .inl (cI, 5, .inl Nu))] H := hP
      have hD : va_D Fr [(o, .inr (7, [.ref q1, .ref q2, .ref q3, .int st, .ref q4, .int ln, .int ps, .int (bi fm), .int rs, .ref q5])), (q1, .inl (cI, 314, .inl (upd S 2 ((S 2) + days)))), (q2, .inl (cI, 314, .inl Bg)), (q3, .inl (cI, 1256, .inl Pa)), (q4, .inl (cI, 80, .inl Tx)), (q5, .inl (cI, 5, .inl Nu))] := hD
      refine lv_iconst (v := 0) hx hb dX9_passes_39 (by decide) ?_
      refine lv_istore_n (lv' := [(2, .int 0), (0, .ref o), (1, .int days)]) hx hb dX9_passes_40 rfl hl (by decide) rfl (fun ls hl => ?_)
      have K_41 : ∀ (fu : Nat) (x2 : Int32) (Q : Nat → Int32) (H : Heap) (locs : List Loc) (ls : Array Slot), va_P D vwCl [(o, .inr (7, [.ref q1, .ref q2, .ref q3, .int st, .ref q4, .int ln, .int ps, .int (bi fm), .int rs, .ref q5])), (q1, .inl (cI, 314, .inl Q)), (q2, .inl (cI, 314, .inl Bg)), (q3, .inl (cI, 1256, .inl Pa)), (q4, .inl (cI, 80, .inl Tx)), (q5, .inl (cI, 5, .inl Nu))] H → va_D Fr [(o, .inr (7, [.ref q1, .ref q2, .ref q3, .int st, .ref q4, .int ln, .int ps, .int (bi fm), .int rs, .ref q5])), (q1, .inl (cI, 314, .inl Q)), (q2, .inl (cI, 314, .inl Bg)), (q3, .inl (cI, 1256, .inl Pa)), (q4, .inl (cI, 80, .inl Tx)), (q5, .inl (cI, 5, .inl Nu))] → va_S Fr s.heap H locs → lv_has ls 3 [(0, .ref o), (1, .int days), (2, .int x2)] → (¬ x2 < 0) → (S 1 = Q 1) → ((S 1).toInt - x2.toInt).toNat < fu → fX9_passes S days = fX9_passes_41 S days fu x2 Q → W p l e (headSpec wsX9_passes ({ frames := 1, cells := 0, slots := 0, locals := 22 } : Jvm.Room)).room s m ([.ref o, .int days] : List Value).toArray below meth c H locs 0 0 (MQ below (qI D (TY cI cC cS) (fun (r : Int32) (u : Int32 × (Nat → Int32)) => fX9_passes S days = u ∧ r = u.1) (fun u => [(o, .inr (7, [.ref q1, .ref q2, .ref q3, .int st, .ref q4, .int ln, .int ps, .int (bi fm), .int rs, .ref q5])), (q1, .inl (cI, 314, .inl u.2)), (q2, .inl (cI, 314, .inl Bg)), (q3, .inl (cI, 1256, .inl Pa)), (q4, .inl (cI, 80, .inl Tx)), (q5, .inl (cI, 5, .inl Nu))]) Fr) ([.ref o, .int days] : List Value).toArray s 0 0 Fr) (F0 m 41 ls []) := by
        intro fu
        induction fu with
        | zero => intros; exact absurd (by assumption) (Nat.not_lt_zero _)
        | succ fu ih_41 =>
          intro x2 Q H locs ls hP hD hS hl hi0 hq hm_41 E_41
          refine lv_iload_n hx hb dX9_passes_41 rfl (lv_at hl 2 rfl) ?_
          refine lv_aload_n hx hb dX9_passes_42 rfl (lv_at hl 0 rfl) ?_
          refine va_get (D := D) (ci := 7) (C := RX9) (T := TX9) (N := 10) hx hb hts w_2 hown hK hP 0 rfl rfl 0 (by decide) w_1 (fun _ h9 => h9) rfl dX9_passes_43 ?_
          refine lv_iconst (v := 1) hx hb dX9_passes_46 (by decide) ?_
          refine va_iald hx hb hK hP 1 0 rfl rfl (vp_d rfl) dX9_passes_47 ?_
          refine W.eq (g2 := F0 m 48 ls [.int (Q 1), .int x2]) rfl ?_
          refine lv_icmp_ge (tgt := 72) hx hb dX9_passes_48 (by decide) (fun c48 => ?_) (fun c48 => ?_)
          · refine lv_aload_n hx hb dX9_passes_72 rfl (lv_at hl 0 rfl) ?_
            refine va_get (D := D) (ci := 7) (C := RX9) (T := TX9) (N := 10) hx hb hts w_2 hown hK hP 0 rfl rfl 0 (by decide) w_1 (fun _ h9 => h9) rfl dX9_passes_73 ?_
            refine lv_iconst (v := 2) hx hb dX9_passes_76 (by decide) ?_
            refine va_iald hx hb hK hP 1 0 rfl rfl (vp_d rfl) dX9_passes_77 ?_
            refine W.eq (g2 := F0 m 78 ls [.int (Q 2)]) rfl ?_
            exact endI hx hb hr hlk hP hK hD hS dX9_passes_78 (Q 2, Q) rfl ⟨(E_41).trans ((fX9_passes_41_s S days fu x2 Q).trans ((if_pos c48).trans rfl)), rfl⟩
          · refine lv_aload_n hx hb dX9_passes_51 rfl (lv_at hl 0 rfl) ?_
            refine va_get (D := D) (ci := 7) (C := RX9) (T := TX9) (N := 10) hx hb hts w_2 hown hK hP 0 rfl rfl 0 (by decide) w_1 (fun _ h9 => h9) rfl dX9_passes_52 ?_
            refine lv_bipush (v := 44) hx hb dX9_passes_55 (by decide) ?_
            refine lv_bipush (v := 6) hx hb dX9_passes_57 (by decide) ?_
            refine lv_iload_n hx hb dX9_passes_59 rfl (lv_at hl 2 rfl) ?_
            refine lv_imul hx hb dX9_passes_60 ?_
            refine lv_iadd hx hb dX9_passes_61 ?_
            refine lv_iconst (v := 2) hx hb dX9_passes_62 (by decide) ?_
            refine lv_iadd hx hb dX9_passes_63 ?_
            refine lv_iconst (v := 0) hx hb dX9_passes_64 (by decide) ?_
            refine va_iast hx hb hK hP hD hS 1 0 rfl rfl (ix_wh (vp_k hi0 c48 (hq ▸ hs)) (vp_d rfl)) dX9_passes_65 (fun H locs hP hD hS => ?_)
            have hP : va_P D vwCl [(o, .inr (7, [.ref q1, .ref q2, .ref q3, .int st, .ref q4, .int ln, .int ps, .int (bi fm), .int rs, .ref q5])), (q1, .inl (cI, 314, .inl (upd Q ((44 + (6 * x2)) + 2).toNatClampNeg 0))), (q2, .inl (cI, 314, .inl Bg)), (q3, .inl (cI, 1256, .inl Pa)), (q4, .inl (cI, 80, .inl Tx)), (q5, .inl (cI, 5, .inl Nu))] H := hP
            have hD : va_D Fr [(o, .inr (7, [.ref q1, .ref q2, .ref q3, .int st, .ref q4, .int ln, .int ps, .int (bi fm), .int rs, .ref q5])), (q1, .inl (cI, 314, .inl (upd Q ((44 + (6 * x2)) + 2).toNatClampNeg 0))), (q2, .inl (cI, 314, .inl Bg)), (q3, .inl (cI, 1256, .inl Pa)), (q4, .inl (cI, 80, .inl Tx)), (q5, .inl (cI, 5, .inl Nu))] := hD
            refine lv_iinc (v := x2 + 1) (lv' := [(2, .int (x2 + 1)), (0, .ref o), (1, .int days)]) hx hb dX9_passes_66 hl (k := 2) rfl (by rfl) (by decide) rfl (fun ls hl => ?_)
            refine lv_goto (tgt := 41) hx hb dX9_passes_69 (by decide) ?_
            exact ih_41 (x2 + 1) (upd Q ((44 + (6 * x2)) + 2).toNatClampNeg 0) _ _ ls hP hD hS (lv_sub hl [1, 2, 0] rfl) (up_k hi0 c48) (hq.trans (un_wh (vp_k hi0 c48 (hq ▸ hs)) (vp_d rfl) (Or.inl (by decide))).symm) (Nat.lt_of_lt_of_le (lp_dec (hq ▸ c48)) (Nat.le_of_lt_succ hm_41)) ((E_41).trans ((fX9_passes_41_s S days fu x2 Q).trans ((if_neg c48).trans rfl)))
      exact K_41 (((S 1).toInt - (0 : Int32).toInt).toNat + 1) 0 (upd S 2 ((S 2) + days)) _ _ ls hP hD hS (lv_sub hl [1, 2, 0] rfl) (by decide) rfl (Nat.lt_succ_self _) ((bd1_e hk2).trans ((if_pos (bi_o c7)).trans ((if_pos c23).trans rfl)))
    · refine lv_bipush (v := (-3)) hx hb dX9_passes_26 (by decide) ?_
      exact endI hx hb hr hlk hP hK hD hS dX9_passes_28 ((-3), S) rfl ⟨(bd1_e hk2).trans ((if_pos (bi_o c7)).trans ((if_neg c23).trans rfl)), rfl⟩
  · refine lv_iconst (v := (-1)) hx hb dX9_passes_10 (by decide) ?_
    exact endI hx hb hr hlk hP hK hD hS dX9_passes_11 ((-1), S) rfl ⟨(bd1_e hk2).trans ((if_neg (bi_z c7)).trans rfl), rfl⟩


/-- the value of X9_type, path by path -/
def fX9_type (Tx : Nat → Int32) (ln : Int32) (character : Int32) : Int32 × (Nat → Int32) × Int32 :=
  bd1 (fX9_in character 32 126) (fun (r_2 : Bool) => (if r_2 = true then (if ln = 80 then ((-3), Tx, ln) else (ln + 1, upd Tx ln.toNatClampNeg character, ln + 1)) else ((-1), Tx, ln)))

set_option maxHeartbeats 4000000 in
set_option maxRecDepth 100000 in
/-- X9_type -/
theorem mX9_type (l : Launch) (D : va_G) (cI cC cS : ClassId) (sz : Nat) (o : Nat) (q1 : Nat) (q2 : Nat) (q3 : Nat) (q4 : Nat) (q5 : Nat) (S : Nat → Int32) (Bg : Nat → Int32) (Pa : Nat → Int32) (Tx : Nat → Int32) (Nu : Nat → Int32) (st : Int32) (ln : Int32) (ps : Int32) (fm : Bool) (rs : Int32) (character : Int32) (hL : vp_in ln 81) : Met l yX9_type wsX9_type ({ frames := 1, cells := 0, slots := 0, locals := 22 } : Jvm.Room) (va_Pc [.ref o, .int character] (wPre D (TY cI cC cS) [(o, .inr (7, [.ref q1, .ref q2, .ref q3, .int st, .ref q4, .int ln, .int ps, .int (bi fm), .int rs, .ref q5])), (q1, .inl (cI, 314, .inl S)), (q2, .inl (cI, 314, .inl Bg)), (q3, .inl (cI, 1256, .inl Pa)), (q4, .inl (cI, 80, .inl Tx)), (q5, .inl (cI, 5, .inl Nu))] sz X0)) (qI D (TY cI cC cS) (fun (r : Int32) (u : Int32 × (Nat → Int32) × Int32) => fX9_type Tx ln character = u ∧ r = u.1) (fun u => [(o, .inr (7, [.ref q1, .ref q2, .ref q3, .int st, .ref q4, .int u.2.2, .int ps, .int (bi fm), .int rs, .ref q5])), (q1, .inl (cI, 314, .inl S)), (q2, .inl (cI, 314, .inl Bg)), (q3, .inl (cI, 1256, .inl Pa)), (q4, .inl (cI, 80, .inl u.2.1)), (q5, .inl (cI, 5, .inl Nu))]) (va_A [(o, .inr (7, [.ref q1, .ref q2, .ref q3, .int st, .ref q4, .int ln, .int ps, .int (bi fm), .int rs, .ref q5])), (q1, .inl (cI, 314, .inl S)), (q2, .inl (cI, 314, .inl Bg)), (q3, .inl (cI, 1256, .inl Pa)), (q4, .inl (cI, 80, .inl Tx)), (q5, .inl (cI, 5, .inl Nu))] sz)) 0 0 (va_A [(o, .inr (7, [.ref q1, .ref q2, .ref q3, .int st, .ref q4, .int ln, .int ps, .int (bi fm), .int rs, .ref q5])), (q1, .inl (cI, 314, .inl S)), (q2, .inl (cI, 314, .inl Bg)), (q3, .inl (cI, 1256, .inl Pa)), (q4, .inl (cI, 80, .inl Tx)), (q5, .inl (cI, 5, .inl Nu))] sz) := by
  refine mkM (fun Fr => qI D (TY cI cC cS) (fun (r : Int32) (u : Int32 × (Nat → Int32) × Int32) => fX9_type Tx ln character = u ∧ r = u.1) (fun u => [(o, .inr (7, [.ref q1, .ref q2, .ref q3, .int st, .ref q4, .int u.2.2, .int ps, .int (bi fm), .int rs, .ref q5])), (q1, .inl (cI, 314, .inl S)), (q2, .inl (cI, 314, .inl Bg)), (q3, .inl (cI, 1256, .inl Pa)), (q4, .inl (cI, 80, .inl u.2.1)), (q5, .inl (cI, 5, .inl Nu))]) Fr) (cc := cX9_type) (maxL := 2) (ret := (some .int)) (own := RX9) (lv := [(0, .ref o), (1, .int character)]) (by decide) rfl rfl (Nat.le_of_ble_eq_true rfl) rfl ?_
  intro p e s m below meth c Fr ls hx hb hr hts hown hml hlk hin hP hK hD hS hA hAe hsz hX hl
  have w_1 := hts (.fieldLink RX9 133 "FieldQuotasModel" "length" "I") (List.mem_of_getElem? (i := 1) rfl)
  have w_2 := sub_r (big := wsX9_type) (u_ws RX9 TX9 10) [7, 8, 9, 10, 11, 12, 13, 14, 15, 16] rfl
  have w_3 := hts (.fieldLink RX9 19 "FieldQuotasModel" "text" "[I") (List.mem_of_getElem? (i := 2) rfl)
  refine lv_iload_n hx hb dX9_type_0 rfl (lv_at hl 1 rfl) ?_
  refine lv_bipush (v := 32) hx hb dX9_type_1 (by decide) ?_
  refine lv_bipush (v := 126) hx hb dX9_type_3 (by decide) ?_
  refine callSi (As := [.int character, .int 32, .int 126]) (rest := []) (mX9_in l D cI cC cS _ character 32 126) ⟨hx, hb, hml, hown, hts⟩ (va_cwS 3 hts gX9_type_X9_in rfl rfl rfl (by decide +kernel) ⟨Nat.le_of_ble_eq_true rfl, Nat.le_of_ble_eq_true rfl⟩) hP hK hD hS hA hl rfl rfl (Nat.le_of_ble_eq_true rfl) dX9_type_5 ⟨Nat.zero_le _, Nat.zero_le _⟩ (fun u_ H locs hk2 hP hS => ?_)
  obtain ⟨r_2, e_r_2⟩ : ∃ z, z = u_ := ⟨_, rfl⟩
  subst e_r_2
  refine W.eq (g2 := F0 m 8 ls [.int (bi r_2)]) rfl ?_
  refine lv_if_ne (tgt := 13) hx hb dX9_type_8 (by decide) (fun c8 => ?_) (fun c8 => ?_)
  · refine lv_aload_n hx hb dX9_type_13 rfl (lv_at hl 0 rfl) ?_
    refine va_get (D := D) (ci := 7) (C := RX9) (T := TX9) (N := 10) hx hb hts w_2 hown hK hP 0 rfl rfl 5 (by decide) w_1 (fun _ h9 => h9) rfl dX9_type_14 ?_
    refine lv_bipush (v := 80) hx hb dX9_type_17 (by decide) ?_
    refine lv_icmp_ne (tgt := 25) hx hb dX9_type_19 (by decide) (fun c19 => ?_) (fun c19 => ?_)
    · refine lv_aload_n hx hb dX9_type_25 rfl (lv_at hl 0 rfl) ?_
      refine va_get (D := D) (ci := 7) (C := RX9) (T := TX9) (N := 10) hx hb hts w_2 hown hK hP 0 rfl rfl 4 (by decide) w_3 (fun _ h9 => h9) rfl dX9_type_26 ?_
      refine lv_aload_n hx hb dX9_type_29 rfl (lv_at hl 0 rfl) ?_
      refine va_get (D := D) (ci := 7) (C := RX9) (T := TX9) (N := 10) hx hb hts w_2 hown hK hP 0 rfl rfl 5 (by decide) w_1 (fun _ h9 => h9) rfl dX9_type_30 ?_
      refine lv_iload_n hx hb dX9_type_33 rfl (lv_at hl 1 rfl) ?_
      refine va_iast hx hb hK hP hD hS 4 0 rfl rfl (vp_ne hL (by decide) c19) dX9_type_34 (fun H locs hP hD hS => ?_)
      have hP : va_P D vwCl [(o, .inr (7, [.ref q1, .ref q2, .ref q3, .int st, .ref q4, .int ln, .int ps, .int (bi fm), .int rs, .ref q5])), (q1, .inl (cI, 314, .inl S)), (q2, .inl (cI, 314, .inl Bg)), (q3, .inl (cI, 1256, .inl Pa)), (q4, .inl (cI, 80, .inl (upd Tx ln.toNatClampNeg character))), (q5, .inl (cI, 5, .inl Nu))] H := hP
      have hD : va_D Fr [(o, .inr (7, [.ref q1, .ref q2, .ref q3, .int st, .ref q4, .int ln, .int ps, .int (bi fm), .int rs, .ref q5])), (q1, .inl (cI, 314, .inl S)), (q2, .inl (cI, 314, .inl Bg)), (q3, .inl (cI, 1256, .inl Pa)), (q4, .inl (cI, 80, .inl (upd Tx ln.toNatClampNeg character))), (q5, .inl (cI, 5, .inl Nu))] := hD
      refine lv_aload_n hx hb dX9_type_35 rfl (lv_at hl 0 rfl) ?_
      refine lv_dup hx hb dX9_type_36 rfl ?_
      refine va_get (D := D) (ci := 7) (C := RX9) (T := TX9) (N := 10) hx hb hts w_2 hown hK hP 0 rfl rfl 5 (by decide) w_1 (fun _ h9 => h9) rfl dX9_type_37 ?_
      refine lv_iconst (v := 1) hx hb dX9_type_40 (by decide) ?_
      refine lv_iadd hx hb dX9_type_41 ?_
      refine va_put (D := D) (ci := 7) (v := .int (ln + 1)) (ty := .int) (C := RX9) (T := TX9) (N := 10) hx hb hts w_2 tyX9 tyX9_ok nmX9 hown hK hP hD hS 0 rfl rfl 5 (by decide) w_1 (fun _ h9 => h9) rfl (by decide +kernel) rfl rfl (Nat.le_of_ble_eq_true rfl) dX9_type_42 (fun H locs hP hD hS => ?_)
      have hP : va_P D vwCl [(o, .inr (7, [.ref q1, .ref q2, .ref q3, .int st, .ref q4, .int (ln + 1), .int ps, .int (bi fm), .int rs, .ref q5])), (q1, .inl (cI, 314, .inl S)), (q2, .inl (cI, 314, .inl Bg)), (q3, .inl (cI, 1256, .inl Pa)), (q4, .inl (cI, 80, .inl (upd Tx ln.toNatClampNeg character))), (q5, .inl (cI, 5, .inl Nu))] H := hP
      have hD : va_D Fr [(o, .inr (7, [.ref q1, .ref q2, .ref q3, .int st, .ref q4, .int (ln + 1), .int ps, .int (bi fm), .int rs, .ref q5])), (q1, .inl (cI, 314, .inl S)), (q2, .inl (cI, 314, .inl Bg)), (q3, .inl (cI, 1256, .inl Pa)), (q4, .inl (cI, 80, .inl (upd Tx ln.toNatClampNeg character))), (q5, .inl (cI, 5, .inl Nu))] := hD
      refine lv_aload_n hx hb dX9_type_45 rfl (lv_at hl 0 rfl) ?_
      refine va_get (D := D) (ci := 7) (C := RX9) (T := TX9) (N := 10) hx hb hts w_2 hown hK hP 0 rfl rfl 5 (by decide) w_1 (fun _ h9 => h9) rfl dX9_type_46 ?_
      exact endI hx hb hr hlk hP hK hD hS dX9_type_49 (ln + 1, upd Tx ln.toNatClampNeg character, ln + 1) rfl ⟨(bd1_e hk2).trans ((if_pos (bi_o c8)).trans ((if_neg c19).trans rfl)), rfl⟩
    · refine lv_bipush (v := (-3)) hx hb dX9_type_22 (by decide) ?_
      exact endI hx hb hr hlk hP hK hD hS dX9_type_24 ((-3), Tx, ln) rfl ⟨(bd1_e hk2).trans ((if_pos (bi_o c8)).trans ((if_pos c19).trans rfl)), rfl⟩
  · refine lv_iconst (v := (-1)) hx hb dX9_type_11 (by decide) ?_
    exact endI hx hb hr hlk hP hK hD hS dX9_type_12 ((-1), Tx, ln) rfl ⟨(bd1_e hk2).trans ((if_neg (bi_z c8)).trans rfl), rfl⟩


/-- the value of X9_clearText, path by path -/
def fX9_clearText (ln : Int32) : Int32 × Int32 :=
  (ln, 0)

set_option maxHeartbeats 4000000 in
set_option maxRecDepth 100000 in
/-- X9_clearText -/
theorem mX9_clearText (l : Launch) (D : va_G) (cI cC cS : ClassId) (sz : Nat) (o : Nat) (q1 : Nat) (q2 : Nat) (q3 : Nat) (q4 : Nat) (q5 : Nat) (S : Nat → Int32) (Bg : Nat → Int32) (Pa : Nat → Int32) (Tx : Nat → Int32) (Nu : Nat → Int32) (st : Int32) (ln : Int32) (ps : Int32) (fm : Bool) (rs : Int32)  : Met l yX9_clearText wsX9_clearText ({ frames := 0, cells := 0, slots := 0, locals := 0 } : Jvm.Room) (va_Pc [.ref o] (wPre D (TY cI cC cS) [(o, .inr (7, [.ref q1, .ref q2, .ref q3, .int st, .ref q4, .int ln, .int ps, .int (bi fm), .int rs, .ref q5])), (q1, .inl (cI, 314, .inl S)), (q2, .inl (cI, 314, .inl Bg)), (q3, .inl (cI, 1256, .inl Pa)), (q4, .inl (cI, 80, .inl Tx)), (q5, .inl (cI, 5, .inl Nu))] sz X0)) (qI D (TY cI cC cS) (fun (r : Int32) (u : Int32 × Int32) => fX9_clearText ln = u ∧ r = u.1) (fun u => [(o, .inr (7, [.ref q1, .ref q2, .ref q3, .int st, .ref q4, .int u.2, .int ps, .int (bi fm), .int rs, .ref q5])), (q1, .inl (cI, 314, .inl S)), (q2, .inl (cI, 314, .inl Bg)), (q3, .inl (cI, 1256, .inl Pa)), (q4, .inl (cI, 80, .inl Tx)), (q5, .inl (cI, 5, .inl Nu))]) (va_A [(o, .inr (7, [.ref q1, .ref q2, .ref q3, .int st, .ref q4, .int ln, .int ps, .int (bi fm), .int rs, .ref q5])), (q1, .inl (cI, 314, .inl S)), (q2, .inl (cI, 314, .inl Bg)), (q3, .inl (cI, 1256, .inl Pa)), (q4, .inl (cI, 80, .inl Tx)), (q5, .inl (cI, 5, .inl Nu))] sz)) 0 0 (va_A [(o, .inr (7, [.ref q1, .ref q2, .ref q3, .int st, .ref q4, .int ln, .int ps, .int (bi fm), .int rs, .ref q5])), (q1, .inl (cI, 314, .inl S)), (q2, .inl (cI, 314, .inl Bg)), (q3, .inl (cI, 1256, .inl Pa)), (q4, .inl (cI, 80, .inl Tx)), (q5, .inl (cI, 5, .inl Nu))] sz) := by
  refine mkM (fun Fr => qI D (TY cI cC cS) (fun (r : Int32) (u : Int32 × Int32) => fX9_clearText ln = u ∧ r = u.1) (fun u => [(o, .inr (7, [.ref q1, .ref q2, .ref q3, .int st, .ref q4, .int u.2, .int ps, .int (bi fm), .int rs, .ref q5])), (q1, .inl (cI, 314, .inl S)), (q2, .inl (cI, 314, .inl Bg)), (q3, .inl (cI, 1256, .inl Pa)), (q4, .inl (cI, 80, .inl Tx)), (q5, .inl (cI, 5, .inl Nu))]) Fr) (cc := cX9_clearText) (maxL := 2) (ret := (some .int)) (own := RX9) (lv := [(0, .ref o)]) (by decide) rfl rfl (Nat.le_of_ble_eq_true rfl) rfl ?_
  intro p e s m below meth c Fr ls hx hb hr hts hown hml hlk hin hP hK hD hS hA hAe hsz hX hl
  have w_1 := hts (.fieldLink RX9 133 "FieldQuotasModel" "length" "I") (List.mem_of_getElem? (i := 1) rfl)
  have w_2 := sub_r (big := wsX9_clearText) (u_ws RX9 TX9 10) [2, 3, 4, 5, 6, 7, 8, 9, 10, 11] rfl
  refine lv_aload_n hx hb dX9_clearText_0 rfl (lv_at hl 0 rfl) ?_
  refine va_get (D := D) (ci := 7) (C := RX9) (T := TX9) (N := 10) hx hb hts w_2 hown hK hP 0 rfl rfl 5 (by decide) w_1 (fun _ h9 => h9) rfl dX9_clearText_1 ?_
  refine lv_istore_n (lv' := [(1, .int ln), (0, .ref o)]) hx hb dX9_clearText_4 rfl hl (by decide) rfl (fun ls hl => ?_)
  refine lv_aload_n hx hb dX9_clearText_5 rfl (lv_at hl 1 rfl) ?_
  refine lv_iconst (v := 0) hx hb dX9_clearText_6 (by decide) ?_
  refine va_put (D := D) (ci := 7) (v := .int 0) (ty := .int) (C := RX9) (T := TX9) (N := 10) hx hb hts w_2 tyX9 tyX9_ok nmX9 hown hK hP hD hS 0 rfl rfl 5 (by decide) w_1 (fun _ h9 => h9) rfl (by decide +kernel) rfl rfl (Nat.le_of_ble_eq_true rfl) dX9_clearText_7 (fun H locs hP hD hS => ?_)
  have hP : va_P D vwCl [(o, .inr (7, [.ref q1, .ref q2, .ref q3, .int st, .ref q4, .int 0, .int ps, .int (bi fm), .int rs, .ref q5])), (q1, .inl (cI, 314, .inl S)), (q2, .inl (cI, 314, .inl Bg)), (q3, .inl (cI, 1256, .inl Pa)), (q4, .inl (cI, 80, .inl Tx)), (q5, .inl (cI, 5, .inl Nu))] H := hP
  have hD : va_D Fr [(o, .inr (7, [.ref q1, .ref q2, .ref q3, .int st, .ref q4, .int 0, .int ps, .int (bi fm), .int rs, .ref q5])), (q1, .inl (cI, 314, .inl S)), (q2, .inl (cI, 314, .inl Bg)), (q3, .inl (cI, 1256, .inl Pa)), (q4, .inl (cI, 80, .inl Tx)), (q5, .inl (cI, 5, .inl Nu))] := hD
  refine lv_iload_n hx hb dX9_clearText_10 rfl (lv_at hl 0 rfl) ?_
  exact endI hx hb hr hlk hP hK hD hS dX9_clearText_11 (ln, 0) rfl ⟨rfl, rfl⟩


/-- the value of X9_sets, path by path -/
def fX9_sets (S : Nat → Int32) (what : Int32) (value : Int32) : Int32 × (Nat → Int32) :=
  bd1 (fX9_in what 0 1) (fun (r_2 : Bool) => (if r_2 = true then (if what = 0 then bd1 (fX9_in value 1 9) (fun (r_7 : Bool) => (if r_7 = true then bd1 (S (6 + what).toNatClampNeg) (fun (y_8 : Int32) => (y_8, upd S (6 + what).toNatClampNeg value)) else ((-1), S))) else bd1 (fX9_in value 0 9) (fun (r_4 : Bool) => (if r_4 = true then bd1 (S (6 + what).toNatClampNeg) (fun (y_5 : Int32) => (y_5, upd S (6 + what).toNatClampNeg value)) else ((-1), S)))) else ((-1), S)))

set_option maxHeartbeats 4000000 in
set_option maxRecDepth 100000 in
/-- X9_sets -/
theorem mX9_sets (l : Launch) (D : va_G) (cI cC cS : ClassId) (sz : Nat) (o : Nat) (q1 : Nat) (q2 : Nat) (q3 : Nat) (q4 : Nat) (q5 : Nat) (S : Nat → Int32) (Bg : Nat → Int32) (Pa : Nat → Int32) (Tx : Nat → Int32) (Nu : Nat → Int32) (st : Int32) (ln : Int32) (ps : Int32) (fm : Bool) (rs : Int32) (what : Int32) (value : Int32)  : Met l yX9_sets wsX9_sets ({ frames := 1, cells := 0, slots := 0, locals := 22 } : Jvm.Room) (va_Pc [.ref o, .int what, .int value] (wPre D (TY cI cC cS) [(o, .inr (7, [.ref q1, .ref q2, .ref q3, .int st, .ref q4, .int ln, .int ps, .int (bi fm), .int rs, .ref q5])), (q1, .inl (cI, 314, .inl S)), (q2, .inl (cI, 314, .inl Bg)), (q3, .inl (cI, 1256, .inl Pa)), (q4, .inl (cI, 80, .inl Tx)), (q5, .inl (cI, 5, .inl Nu))] sz X0)) (qI D (TY cI cC cS) (fun (r : Int32) (u : Int32 × (Nat → Int32)) => fX9_sets S what value = u ∧ r = u.1) (fun u => [(o, .inr (7, [.ref q1, .ref q2, .ref q3, .int st, .ref q4, .int ln, .int ps, .int (bi fm), .int rs, .ref q5])), (q1, .inl (cI, 314, .inl u.2)), (q2, .inl (cI, 314, .inl Bg)), (q3, .inl (cI, 1256, .inl Pa)), (q4, .inl (cI, 80, .inl Tx)), (q5, .inl (cI, 5, .inl Nu))]) (va_A [(o, .inr (7, [.ref q1, .ref q2, .ref q3, .int st, .ref q4, .int ln, .int ps, .int (bi fm), .int rs, .ref q5])), (q1, .inl (cI, 314, .inl S)), (q2, .inl (cI, 314, .inl Bg)), (q3, .inl (cI, 1256, .inl Pa)), (q4, .inl (cI, 80, .inl Tx)), (q5, .inl (cI, 5, .inl Nu))] sz)) 0 0 (va_A [(o, .inr (7, [.ref q1, .ref q2, .ref q3, .int st, .ref q4, .int ln, .int ps, .int (bi fm), .int rs, .ref q5])), (q1, .inl (cI, 314, .inl S)), (q2, .inl (cI, 314, .inl Bg)), (q3, .inl (cI, 1256, .inl Pa)), (q4, .inl (cI, 80, .inl Tx)), (q5, .inl (cI, 5, .inl Nu))] sz) := by
  refine mkM (fun Fr => qI D (TY cI cC cS) (fun (r : Int32) (u : Int32 × (Nat → Int32)) => fX9_sets S what value = u ∧ r = u.1) (fun u => [(o, .inr (7, [.ref q1, .ref q2, .ref q3, .int st, .ref q4, .int ln, .int ps, .int (bi fm), .int rs, .ref q5])), (q1, .inl (cI, 314, .inl u.2)), (q2, .inl (cI, 314, .inl Bg)), (q3, .inl (cI, 1256, .inl Pa)), (q4, .inl (cI, 80, .inl Tx)), (q5, .inl (cI, 5, .inl Nu))]) Fr) (cc := cX9_sets) (maxL := 4) (ret := (some .int)) (own := RX9) (lv := [(0, .ref o), (1, .int what), (2, .int value)]) (by decide) rfl rfl (Nat.le_of_ble_eq_true rfl) rfl ?_
  intro p e s m below meth c Fr ls hx hb hr hts hown hml hlk hin hP hK hD hS hA hAe hsz hX hl
  have w_1 := hts (.fieldLink RX9 7 "FieldQuotasModel" "s" "[I") (List.mem_of_getElem? (i := 1) rfl)
  have w_2 := sub_r (big := wsX9_sets) (u_ws RX9 TX9 10) [6, 7, 8, 9, 10, 11, 12, 13, 14, 15] rfl
  refine lv_iload_n hx hb dX9_sets_0 rfl (lv_at hl 1 rfl) ?_
  refine lv_iconst (v := 0) hx hb dX9_sets_1 (by decide) ?_
  refine lv_iconst (v := 1) hx hb dX9_sets_2 (by decide) ?_
  refine callSi (As := [.int what, .int 0, .int 1]) (rest := []) (mX9_in l D cI cC cS _ what 0 1) ⟨hx, hb, hml, hown, hts⟩ (va_cwS 3 hts gX9_sets_X9_in rfl rfl rfl (by decide +kernel) ⟨Nat.le_of_ble_eq_true rfl, Nat.le_of_ble_eq_true rfl⟩) hP hK hD hS hA hl rfl rfl (Nat.le_of_ble_eq_true rfl) dX9_sets_3 ⟨Nat.zero_le _, Nat.zero_le _⟩ (fun u_ H locs hk2 hP hS => ?_)
  obtain ⟨r_2, e_r_2⟩ : ∃ z, z = u_ := ⟨_, rfl⟩
  subst e_r_2
  refine W.eq (g2 := F0 m 6 ls [.int (bi r_2)]) rfl ?_
  refine lv_if_eq (tgt := 27) hx hb dX9_sets_6 (by decide) (fun c6 => ?_) (fun c6 => ?_)
  · refine lv_iconst (v := (-1)) hx hb dX9_sets_27 (by decide) ?_
    exact endI hx hb hr hlk hP hK hD hS dX9_sets_28 ((-1), S) rfl ⟨(bd1_e hk2).trans ((if_neg (bi_z c6)).trans rfl), rfl⟩
  · refine lv_iload_n hx hb dX9_sets_9 rfl (lv_at hl 2 rfl) ?_
    refine lv_iload_n hx hb dX9_sets_10 rfl (lv_at hl 1 rfl) ?_
    refine lv_if_ne (tgt := 18) hx hb dX9_sets_11 (by decide) (fun c11 => ?_) (fun c11 => ?_)
    · refine lv_iconst (v := 0) hx hb dX9_sets_18 (by decide) ?_
      refine lv_bipush (v := 9) hx hb dX9_sets_19 (by decide) ?_
      refine callSi (As := [.int value, .int 0, .int 9]) (rest := []) (mX9_in l D cI cC cS _ value 0 9) ⟨hx, hb, hml, hown, hts⟩ (va_cwS 3 hts gX9_sets_X9_in rfl rfl rfl (by decide +kernel) ⟨Nat.le_of_ble_eq_true rfl, Nat.le_of_ble_eq_true rfl⟩) hP hK hD hS hA hl rfl rfl (Nat.le_of_ble_eq_true rfl) dX9_sets_21 ⟨Nat.zero_le _, Nat.zero_le _⟩ (fun u_ H locs hk4 hP hS => ?_)
      obtain ⟨r_4, e_r_4⟩ : ∃ z, z = u_ := ⟨_, rfl⟩
      subst e_r_4
      refine W.eq (g2 := F0 m 24 ls [.int (bi r_4)]) rfl ?_
      refine lv_if_ne (tgt := 29) hx hb dX9_sets_24 (by decide) (fun c24 => ?_) (fun c24 => ?_)
      · refine lv_aload_n hx hb dX9_sets_29 rfl (lv_at hl 0 rfl) ?_
        refine va_get (D := D) (ci := 7) (C := RX9) (T := TX9) (N := 10) hx hb hts w_2 hown hK hP 0 rfl rfl 0 (by decide) w_1 (fun _ h9 => h9) rfl dX9_sets_30 ?_
        refine lv_bipush (v := 6) hx hb dX9_sets_33 (by decide) ?_
        refine lv_iload_n hx hb dX9_sets_35 rfl (lv_at hl 1 rfl) ?_
        refine lv_iadd hx hb dX9_sets_36 ?_
        refine va_iald hx hb hK hP 1 0 rfl rfl (ix_st (in_of (hk2.trans (bi_o c6)) (by decide) (by decide))) dX9_sets_37 ?_
        refine lv_topi (fun y_5 ey_5 => ?_)
        refine lv_istore_n (lv' := [(3, .int y_5), (0, .ref o), (1, .int what), (2, .int value)]) hx hb dX9_sets_38 rfl hl (by decide) rfl (fun ls hl => ?_)
        refine lv_aload_n hx hb dX9_sets_39 rfl (lv_at hl 1 rfl) ?_
        refine va_get (D := D) (ci := 7) (C := RX9) (T := TX9) (N := 10) hx hb hts w_2 hown hK hP 0 rfl rfl 0 (by decide) w_1 (fun _ h9 => h9) rfl dX9_sets_40 ?_
        refine lv_bipush (v := 6) hx hb dX9_sets_43 (by decide) ?_
        refine lv_iload_n hx hb dX9_sets_45 rfl (lv_at hl 2 rfl) ?_
        refine lv_iadd hx hb dX9_sets_46 ?_
        refine lv_iload_n hx hb dX9_sets_47 rfl (lv_at hl 3 rfl) ?_
        refine va_iast hx hb hK hP hD hS 1 0 rfl rfl (ix_st (in_of (hk2.trans (bi_o c6)) (by decide) (by decide))) dX9_sets_48 (fun H locs hP hD hS => ?_)
        have hP : va_P D vwCl [(o, .inr (7, [.ref q1, .ref q2, .ref q3, .int st, .ref q4, .int ln, .int ps, .int (bi fm), .int rs, .ref q5])), (q1, .inl (cI, 314, .inl (upd S (6 + what).toNatClampNeg value))), (q2, .inl (cI, 314, .inl Bg)), (q3, .inl (cI, 1256, .inl Pa)), (q4, .inl (cI, 80, .inl Tx)), (q5, .inl (cI, 5, .inl Nu))] H := hP
        have hD : va_D Fr [(o, .inr (7, [.ref q1, .ref q2, .ref q3, .int st, .ref q4, .int ln, .int ps, .int (bi fm), .int rs, .ref q5])), (q1, .inl (cI, 314, .inl (upd S (6 + what).toNatClampNeg value))), (q2, .inl (cI, 314, .inl Bg)), (q3, .inl (cI, 1256, .inl Pa)), (q4, .inl (cI, 80, .inl Tx)), (q5, .inl (cI, 5, .inl Nu))] := hD
        refine lv_iload_n hx hb dX9_sets_49 rfl (lv_at hl 0 rfl) ?_
        exact endI hx hb hr hlk hP hK hD hS dX9_sets_50 (y_5, upd S (6 + what).toNatClampNeg value) rfl ⟨(bd1_e hk2).trans ((if_pos (bi_o c6)).trans ((if_neg c11).trans ((bd1_e hk4).trans ((if_pos (bi_o c24)).trans ((bd1_n ey_5).trans rfl))))), rfl⟩
      · refine lv_iconst (v := (-1)) hx hb dX9_sets_27 (by decide) ?_
        exact endI hx hb hr hlk hP hK hD hS dX9_sets_28 ((-1), S) rfl ⟨(bd1_e hk2).trans ((if_pos (bi_o c6)).trans ((if_neg c11).trans ((bd1_e hk4).trans ((if_neg (bi_z c24)).trans rfl)))), rfl⟩
    · refine lv_iconst (v := 1) hx hb dX9_sets_14 (by decide) ?_
      refine lv_goto (tgt := 19) hx hb dX9_sets_15 (by decide) ?_
      refine lv_bipush (v := 9) hx hb dX9_sets_19 (by decide) ?_
      refine callSi (As := [.int value, .int 1, .int 9]) (rest := []) (mX9_in l D cI cC cS _ value 1 9) ⟨hx, hb, hml, hown, hts⟩ (va_cwS 3 hts gX9_sets_X9_in rfl rfl rfl (by decide +kernel) ⟨Nat.le_of_ble_eq_true rfl, Nat.le_of_ble_eq_true rfl⟩) hP hK hD hS hA hl rfl rfl (Nat.le_of_ble_eq_true rfl) dX9_sets_21 ⟨Nat.zero_le _, Nat.zero_le _⟩ (fun u_ H locs hk7 hP hS => ?_)
      obtain ⟨r_7, e_r_7⟩ : ∃ z, z = u_ := ⟨_, rfl⟩
      subst e_r_7
      refine W.eq (g2 := F0 m 24 ls [.int (bi r_7)]) rfl ?_
      refine lv_if_ne (tgt := 29) hx hb dX9_sets_24 (by decide) (fun c24 => ?_) (fun c24 => ?_)
      · refine lv_aload_n hx hb dX9_sets_29 rfl (lv_at hl 0 rfl) ?_
        refine va_get (D := D) (ci := 7) (C := RX9) (T := TX9) (N := 10) hx hb hts w_2 hown hK hP 0 rfl rfl 0 (by decide) w_1 (fun _ h9 => h9) rfl dX9_sets_30 ?_
        refine lv_bipush (v := 6) hx hb dX9_sets_33 (by decide) ?_
        refine lv_iload_n hx hb dX9_sets_35 rfl (lv_at hl 1 rfl) ?_
        refine lv_iadd hx hb dX9_sets_36 ?_
        refine va_iald hx hb hK hP 1 0 rfl rfl (ix_st (in_of (hk2.trans (bi_o c6)) (by decide) (by decide))) dX9_sets_37 ?_
        refine lv_topi (fun y_8 ey_8 => ?_)
        refine lv_istore_n (lv' := [(3, .int y_8), (0, .ref o), (1, .int what), (2, .int value)]) hx hb dX9_sets_38 rfl hl (by decide) rfl (fun ls hl => ?_)
        refine lv_aload_n hx hb dX9_sets_39 rfl (lv_at hl 1 rfl) ?_
        refine va_get (D := D) (ci := 7) (C := RX9) (T := TX9) (N := 10) hx hb hts w_2 hown hK hP 0 rfl rfl 0 (by decide) w_1 (fun _ h9 => h9) rfl dX9_sets_40 ?_
        refine lv_bipush (v := 6) hx hb dX9_sets_43 (by decide) ?_
        refine lv_iload_n hx hb dX9_sets_45 rfl (lv_at hl 2 rfl) ?_
        refine lv_iadd hx hb dX9_sets_46 ?_
        refine lv_iload_n hx hb dX9_sets_47 rfl (lv_at hl 3 rfl) ?_
        refine va_iast hx hb hK hP hD hS 1 0 rfl rfl (ix_st (in_of (hk2.trans (bi_o c6)) (by decide) (by decide))) dX9_sets_48 (fun H locs hP hD hS => ?_)
        have hP : va_P D vwCl [(o, .inr (7, [.ref q1, .ref q2, .ref q3, .int st, .ref q4, .int ln, .int ps, .int (bi fm), .int rs, .ref q5])), (q1, .inl (cI, 314, .inl (upd S (6 + what).toNatClampNeg value))), (q2, .inl (cI, 314, .inl Bg)), (q3, .inl (cI, 1256, .inl Pa)), (q4, .inl (cI, 80, .inl Tx)), (q5, .inl (cI, 5, .inl Nu))] H := hP
        have hD : va_D Fr [(o, .inr (7, [.ref q1, .ref q2, .ref q3, .int st, .ref q4, .int ln, .int ps, .int (bi fm), .int rs, .ref q5])), (q1, .inl (cI, 314, .inl (upd S (6 + what).toNatClampNeg value))), (q2, .inl (cI, 314, .inl Bg)), (q3, .inl (cI, 1256, .inl Pa)), (q4, .inl (cI, 80, .inl Tx)), (q5, .inl (cI, 5, .inl Nu))] := hD
        refine lv_iload_n hx hb dX9_sets_49 rfl (lv_at hl 0 rfl) ?_
        exact endI hx hb hr hlk hP hK hD hS dX9_sets_50 (y_8, upd S (6 + what).toNatClampNeg value) rfl ⟨(bd1_e hk2).trans ((if_pos (bi_o c6)).trans ((if_pos c11).trans ((bd1_e hk7).trans ((if_pos (bi_o c24)).trans ((bd1_n ey_8).trans rfl))))), rfl⟩
      · refine lv_iconst (v := (-1)) hx hb dX9_sets_27 (by decide) ?_
        exact endI hx hb hr hlk hP hK hD hS dX9_sets_28 ((-1), S) rfl ⟨(bd1_e hk2).trans ((if_pos (bi_o c6)).trans ((if_pos c11).trans ((bd1_e hk7).trans ((if_neg (bi_z c24)).trans rfl)))), rfl⟩


/-- the loop of X9_undo at 22 -/
def fX9_undo_22 (S : Nat → Int32) (Pa : Nat → Int32) (st : Int32) : Nat → Int32 → (Nat → Int32) → Int32 × (Nat → Int32) × Int32
  | 0, _, _ => default
  | fu + 1, x1, Q =>
    (if (314 : Int32) ≤ x1 then (st - 1, Q, st - 1) else fX9_undo_22 S Pa st fu (x1 + 1) (upd Q x1.toNatClampNeg (Pa ((314 * (st - 1)) + x1).toNatClampNeg)))
theorem fX9_undo_22_s (S : Nat → Int32) (Pa : Nat → Int32) (st : Int32) (fu : Nat) (x1 : Int32) (Q : Nat → Int32) : fX9_undo_22 S Pa st (fu + 1) x1 Q =
    (if (314 : Int32) ≤ x1 then (st - 1, Q, st - 1) else fX9_undo_22 S Pa st fu (x1 + 1) (upd Q x1.toNatClampNeg (Pa ((314 * (st - 1)) + x1).toNatClampNeg))) := rfl

/-- the value of X9_undo, path by path -/
def fX9_undo (S : Nat → Int32) (Pa : Nat → Int32) (st : Int32) : Int32 × (Nat → Int32) × Int32 :=
  (if st = 0 then ((-2), S, st) else fX9_undo_22 S Pa st (((314 : Int32).toInt - (0 : Int32).toInt).toNat + 1) 0 S)

set_option maxHeartbeats 4000000 in
set_option maxRecDepth 100000 in
/-- X9_undo -/
theorem mX9_undo (l : Launch) (D : va_G) (cI cC cS : ClassId) (sz : Nat) (o : Nat) (q1 : Nat) (q2 : Nat) (q3 : Nat) (q4 : Nat) (q5 : Nat) (S : Nat → Int32) (Bg : Nat → Int32) (Pa : Nat → Int32) (Tx : Nat → Int32) (Nu : Nat → Int32) (st : Int32) (ln : Int32) (ps : Int32) (fm : Bool) (rs : Int32) (ht : vp_in st 5) : Met l yX9_undo wsX9_undo ({ frames := 0, cells := 0, slots := 0, locals := 0 } : Jvm.Room) (va_Pc [.ref o] (wPre D (TY cI cC cS) [(o, .inr (7, [.ref q1, .ref q2, .ref q3, .int st, .ref q4, .int ln, .int ps, .int (bi fm), .int rs, .ref q5])), (q1, .inl (cI, 314, .inl S)), (q2, .inl (cI, 314, .inl Bg)), (q3, .inl (cI, 1256, .inl Pa)), (q4, .inl (cI, 80, .inl Tx)), (q5, .inl (cI, 5, .inl Nu))] sz X0)) (qI D (TY cI cC cS) (fun (r : Int32) (u : Int32 × (Nat → Int32) × Int32) => fX9_undo S Pa st = u ∧ r = u.1) (fun u => [(o, .inr (7, [.ref q1, .ref q2, .ref q3, .int u.2.2, .ref q4, .int ln, .int ps, .int (bi fm), .int rs, .ref q5])), (q1, .inl (cI, 314, .inl u.2.1)), (q2, .inl (cI, 314, .inl Bg)), (q3, .inl (cI, 1256, .inl Pa)), (q4, .inl (cI, 80, .inl Tx)), (q5, .inl (cI, 5, .inl Nu))]) (va_A [(o, .inr (7, [.ref q1, .ref q2, .ref q3, .int st, .ref q4, .int ln, .int ps, .int (bi fm), .int rs, .ref q5])), (q1, .inl (cI, 314, .inl S)), (q2, .inl (cI, 314, .inl Bg)), (q3, .inl (cI, 1256, .inl Pa)), (q4, .inl (cI, 80, .inl Tx)), (q5, .inl (cI, 5, .inl Nu))] sz)) 0 0 (va_A [(o, .inr (7, [.ref q1, .ref q2, .ref q3, .int st, .ref q4, .int ln, .int ps, .int (bi fm), .int rs, .ref q5])), (q1, .inl (cI, 314, .inl S)), (q2, .inl (cI, 314, .inl Bg)), (q3, .inl (cI, 1256, .inl Pa)), (q4, .inl (cI, 80, .inl Tx)), (q5, .inl (cI, 5, .inl Nu))] sz) := by
  refine mkM (fun Fr => qI D (TY cI cC cS) (fun (r : Int32) (u : Int32 × (Nat → Int32) × Int32) => fX9_undo S Pa st = u ∧ r = u.1) (fun u => [(o, .inr (7, [.ref q1, .ref q2, .ref q3, .int u.2.2, .ref q4, .int ln, .int ps, .int (bi fm), .int rs, .ref q5])), (q1, .inl (cI, 314, .inl u.2.1)), (q2, .inl (cI, 314, .inl Bg)), (q3, .inl (cI, 1256, .inl Pa)), (q4, .inl (cI, 80, .inl Tx)), (q5, .inl (cI, 5, .inl Nu))]) Fr) (cc := cX9_undo) (maxL := 2) (ret := (some .int)) (own := RX9) (lv := [(0, .ref o)]) (by decide) rfl rfl (Nat.le_of_ble_eq_true rfl) rfl ?_
  intro p e s m below meth c Fr ls hx hb hr hts hown hml hlk hin hP hK hD hS hA hAe hsz hX hl
  have w_1 := hts (.fieldLink RX9 25 "FieldQuotasModel" "states" "I") (List.mem_of_getElem? (i := 1) rfl)
  have w_2 := sub_r (big := wsX9_undo) (u_ws RX9 TX9 10) [4, 5, 6, 7, 8, 9, 10, 11, 12, 13] rfl
  have w_3 := hts (.fieldLink RX9 7 "FieldQuotasModel" "s" "[I") (List.mem_of_getElem? (i := 2) rfl)
  have w_4 := hts (.fieldLink RX9 16 "FieldQuotasModel" "past" "[I") (List.mem_of_getElem? (i := 3) rfl)
  refine lv_aload_n hx hb dX9_undo_0 rfl (lv_at hl 0 rfl) ?_
  refine va_get (D := D) (ci := 7) (C := RX9) (T := TX9) (N := 10) hx hb hts w_2 hown hK hP 0 rfl rfl 3 (by decide) w_1 (fun _ h9 => h9) rfl dX9_undo_1 ?_
  refine lv_if_ne (tgt := 10) hx hb dX9_undo_4 (by decide) (fun c4 => ?_) (fun c4 => ?_)
  · refine lv_aload_n hx hb dX9_undo_10 rfl (lv_at hl 0 rfl) ?_
    refine lv_dup hx hb dX9_undo_11 rfl ?_
    refine va_get (D := D) (ci := 7) (C := RX9) (T := TX9) (N := 10) hx hb hts w_2 hown hK hP 0 rfl rfl 3 (by decide) w_1 (fun _ h9 => h9) rfl dX9_undo_12 ?_
    refine lv_iconst (v := 1) hx hb dX9_undo_15 (by decide) ?_
    refine lv_isub hx hb dX9_undo_16 ?_
    refine va_put (D := D) (ci := 7) (v := .int (st - 1)) (ty := .int) (C := RX9) (T := TX9) (N := 10) hx hb hts w_2 tyX9 tyX9_ok nmX9 hown hK hP hD hS 0 rfl rfl 3 (by decide) w_1 (fun _ h9 => h9) rfl (by decide +kernel) rfl rfl (Nat.le_of_ble_eq_true rfl) dX9_undo_17 (fun H locs hP hD hS => ?_)
    have hP : va_P D vwCl [(o, .inr (7, [.ref q1, .ref q2, .ref q3, .int (st - 1), .ref q4, .int ln, .int ps, .int (bi fm), .int rs, .ref q5])), (q1, .inl (cI, 314, .inl S)), (q2, .inl (cI, 314, .inl Bg)), (q3, .inl (cI, 1256, .inl Pa)), (q4, .inl (cI, 80, .inl Tx)), (q5, .inl (cI, 5, .inl Nu))] H := hP
    have hD : va_D Fr [(o, .inr (7, [.ref q1, .ref q2, .ref q3, .int (st - 1), .ref q4, .int ln, .int ps, .int (bi fm), .int rs, .ref q5])), (q1, .inl (cI, 314, .inl S)), (q2, .inl (cI, 314, .inl Bg)), (q3, .inl (cI, 1256, .inl Pa)), (q4, .inl (cI, 80, .inl Tx)), (q5, .inl (cI, 5, .inl Nu))] := hD
    refine lv_iconst (v := 0) hx hb dX9_undo_20 (by decide) ?_
    refine lv_istore_n (lv' := [(1, .int 0), (0, .ref o)]) hx hb dX9_undo_21 rfl hl (by decide) rfl (fun ls hl => ?_)
    have K_22 : ∀ (fu : Nat) (x1 : Int32) (Q : Nat → Int32) (H : Heap) (locs : List Loc) (ls : Array Slot), va_P D vwCl [(o, .inr (7, [.ref q1, .ref q2, .ref q3, .int (st - 1), .ref q4, .int ln, .int ps, .int (bi fm), .int rs, .ref q5])), (q1, .inl (cI, 314, .inl Q)), (q2, .inl (cI, 314, .inl Bg)), (q3, .inl (cI, 1256, .inl Pa)), (q4, .inl (cI, 80, .inl Tx)), (q5, .inl (cI, 5, .inl Nu))] H → va_D Fr [(o, .inr (7, [.ref q1, .ref q2, .ref q3, .int (st - 1), .ref q4, .int ln, .int ps, .int (bi fm), .int rs, .ref q5])), (q1, .inl (cI, 314, .inl Q)), (q2, .inl (cI, 314, .inl Bg)), (q3, .inl (cI, 1256, .inl Pa)), (q4, .inl (cI, 80, .inl Tx)), (q5, .inl (cI, 5, .inl Nu))] → va_S Fr s.heap H locs → lv_has ls 2 [(0, .ref o), (1, .int x1)] → (¬ x1 < 0) → ((314 : Int32).toInt - x1.toInt).toNat < fu → fX9_undo S Pa st = fX9_undo_22 S Pa st fu x1 Q → W p l e (headSpec wsX9_undo ({ frames := 0, cells := 0, slots := 0, locals := 0 } : Jvm.Room)).room s m ([.ref o] : List Value).toArray below meth c H locs 0 0 (MQ below (qI D (TY cI cC cS) (fun (r : Int32) (u : Int32 × (Nat → Int32) × Int32) => fX9_undo S Pa st = u ∧ r = u.1) (fun u => [(o, .inr (7, [.ref q1, .ref q2, .ref q3, .int u.2.2, .ref q4, .int ln, .int ps, .int (bi fm), .int rs, .ref q5])), (q1, .inl (cI, 314, .inl u.2.1)), (q2, .inl (cI, 314, .inl Bg)), (q3, .inl (cI, 1256, .inl Pa)), (q4, .inl (cI, 80, .inl Tx)), (q5, .inl (cI, 5, .inl Nu))]) Fr) ([.ref o] : List Value).toArray s 0 0 Fr) (F0 m 22 ls []) := by
      intro fu
      induction fu with
      | zero => intros; exact absurd (by assumption) (Nat.not_lt_zero _)
      | succ fu ih_22 =>
        intro x1 Q H locs ls hP hD hS hl hi0 hm_22 E_22
        refine lv_iload_n hx hb dX9_undo_22 rfl (lv_at hl 1 rfl) ?_
        refine lv_sipush (v := 314) hx hb dX9_undo_23 (by decide) ?_
        refine lv_icmp_ge (tgt := 56) hx hb dX9_undo_26 (by decide) (fun c26 => ?_) (fun c26 => ?_)
        · refine lv_aload_n hx hb dX9_undo_56 rfl (lv_at hl 0 rfl) ?_
          refine va_get (D := D) (ci := 7) (C := RX9) (T := TX9) (N := 10) hx hb hts w_2 hown hK hP 0 rfl rfl 3 (by decide) w_1 (fun _ h9 => h9) rfl dX9_undo_57 ?_
          exact endI hx hb hr hlk hP hK hD hS dX9_undo_60 (st - 1, Q, st - 1) rfl ⟨(E_22).trans ((fX9_undo_22_s S Pa st fu x1 Q).trans ((if_pos c26).trans rfl)), rfl⟩
        · refine lv_aload_n hx hb dX9_undo_29 rfl (lv_at hl 0 rfl) ?_
          refine va_get (D := D) (ci := 7) (C := RX9) (T := TX9) (N := 10) hx hb hts w_2 hown hK hP 0 rfl rfl 0 (by decide) w_3 (fun _ h9 => h9) rfl dX9_undo_30 ?_
          refine lv_iload_n hx hb dX9_undo_33 rfl (lv_at hl 1 rfl) ?_
          refine lv_aload_n hx hb dX9_undo_34 rfl (lv_at hl 0 rfl) ?_
          refine va_get (D := D) (ci := 7) (C := RX9) (T := TX9) (N := 10) hx hb hts w_2 hown hK hP 0 rfl rfl 2 (by decide) w_4 (fun _ h9 => h9) rfl dX9_undo_35 ?_
          refine lv_sipush (v := 314) hx hb dX9_undo_38 (by decide) ?_
          refine lv_aload_n hx hb dX9_undo_41 rfl (lv_at hl 0 rfl) ?_
          refine va_get (D := D) (ci := 7) (C := RX9) (T := TX9) (N := 10) hx hb hts w_2 hown hK hP 0 rfl rfl 3 (by decide) w_1 (fun _ h9 => h9) rfl dX9_undo_42 ?_
          refine lv_imul hx hb dX9_undo_45 ?_
          refine lv_iload_n hx hb dX9_undo_46 rfl (lv_at hl 1 rfl) ?_
          refine lv_iadd hx hb dX9_undo_47 ?_
          refine va_iald hx hb hK hP 3 0 rfl rfl (ix_pa (vp_m1 ht c4) (vp_k hi0 c26 (vp_d rfl))) dX9_undo_48 ?_
          refine va_iast hx hb hK hP hD hS 1 0 rfl rfl (vp_k hi0 c26 (vp_d rfl)) dX9_undo_49 (fun H locs hP hD hS => ?_)
          have hP : va_P D vwCl [(o, .inr (7, [.ref q1, .ref q2, .ref q3, .int (st - 1), .ref q4, .int ln, .int ps, .int (bi fm), .int rs, .ref q5])), (q1, .inl (cI, 314, .inl (upd Q x1.toNatClampNeg (Pa ((314 * (st - 1)) + x1).toNatClampNeg)))), (q2, .inl (cI, 314, .inl Bg)), (q3, .inl (cI, 1256, .inl Pa)), (q4, .inl (cI, 80, .inl Tx)), (q5, .inl (cI, 5, .inl Nu))] H := hP
          have hD : va_D Fr [(o, .inr (7, [.ref q1, .ref q2, .ref q3, .int (st - 1), .ref q4, .int ln, .int ps, .int (bi fm), .int rs, .ref q5])), (q1, .inl (cI, 314, .inl (upd Q x1.toNatClampNeg (Pa ((314 * (st - 1)) + x1).toNatClampNeg)))), (q2, .inl (cI, 314, .inl Bg)), (q3, .inl (cI, 1256, .inl Pa)), (q4, .inl (cI, 80, .inl Tx)), (q5, .inl (cI, 5, .inl Nu))] := hD
          refine lv_iinc (v := x1 + 1) (lv' := [(1, .int (x1 + 1)), (0, .ref o)]) hx hb dX9_undo_50 hl (k := 1) rfl (by rfl) (by decide) rfl (fun ls hl => ?_)
          refine lv_goto (tgt := 22) hx hb dX9_undo_53 (by decide) ?_
          exact ih_22 (x1 + 1) (upd Q x1.toNatClampNeg (Pa ((314 * (st - 1)) + x1).toNatClampNeg)) _ _ ls hP hD hS (lv_sub hl [1, 0] rfl) (up_k hi0 c26) (Nat.lt_of_lt_of_le (lp_dec c26) (Nat.le_of_lt_succ hm_22)) ((E_22).trans ((fX9_undo_22_s S Pa st fu x1 Q).trans ((if_neg c26).trans rfl)))
    exact K_22 (((314 : Int32).toInt - (0 : Int32).toInt).toNat + 1) 0 S _ _ ls hP hD hS (lv_sub hl [1, 0] rfl) (by decide) (Nat.lt_succ_self _) ((if_neg c4).trans rfl)
  · refine lv_bipush (v := (-2)) hx hb dX9_undo_7 (by decide) ?_
    exact endI hx hb hr hlk hP hK hD hS dX9_undo_9 ((-2), S, st) rfl ⟨(if_pos c4).trans rfl, rfl⟩


/-- the loop of X9_acted at 57 -/
def fX9_acted_57 (Bg : Nat → Int32) (Pa : Nat → Int32) (st : Int32) (answer : Int32) : Nat → Int32 → (Nat → Int32) → Int32 → Int32 × (Nat → Int32) × Int32
  | 0, _, _, _ => default
  | fu + 1, x2, Q, t =>
    (if (314 : Int32) ≤ x2 then (answer, Q, t + 1) else fX9_acted_57 Bg Pa st answer fu (x2 + 1) (upd Q ((314 * t) + x2).toNatClampNeg (Bg x2.toNatClampNeg)) t)
theorem fX9_acted_57_s (Bg : Nat → Int32) (Pa : Nat → Int32) (st : Int32) (answer : Int32) (fu : Nat) (x2 : Int32) (Q : Nat → Int32) (t : Int32) : fX9_acted_57 Bg Pa st answer (fu + 1) x2 Q t =
    (if (314 : Int32) ≤ x2 then (answer, Q, t + 1) else fX9_acted_57 Bg Pa st answer fu (x2 + 1) (upd Q ((314 * t) + x2).toNatClampNeg (Bg x2.toNatClampNeg)) t) := rfl

/-- the loop of X9_acted at 16 -/
def fX9_acted_16 (Bg : Nat → Int32) (Pa : Nat → Int32) (st : Int32) (answer : Int32) : Nat → Int32 → (Nat → Int32) → Int32 × (Nat → Int32) × Int32
  | 0, _, _ => default
  | fu + 1, x2, Q =>
    (if (942 : Int32) ≤ x2 then fX9_acted_57 Bg Pa st answer (((314 : Int32).toInt - (0 : Int32).toInt).toNat + 1) 0 Q (st - 1) else fX9_acted_16 Bg Pa st answer fu (x2 + 1) (upd Q x2.toNatClampNeg (Q (x2 + 314).toNatClampNeg)))
theorem fX9_acted_16_s (Bg : Nat → Int32) (Pa : Nat → Int32) (st : Int32) (answer : Int32) (fu : Nat) (x2 : Int32) (Q : Nat → Int32) : fX9_acted_16 Bg Pa st answer (fu + 1) x2 Q =
    (if (942 : Int32) ≤ x2 then fX9_acted_57 Bg Pa st answer (((314 : Int32).toInt - (0 : Int32).toInt).toNat + 1) 0 Q (st - 1) else fX9_acted_16 Bg Pa st answer fu (x2 + 1) (upd Q x2.toNatClampNeg (Q (x2 + 314).toNatClampNeg))) := rfl

/-- the value of X9_acted, path by path -/
def fX9_acted (Bg : Nat → Int32) (Pa : Nat → Int32) (st : Int32) (answer : Int32) : Int32 × (Nat → Int32) × Int32 :=
  (if (0 : Int32) ≤ answer then (if st = 4 then fX9_acted_16 Bg Pa st answer (((942 : Int32).toInt - (0 : Int32).toInt).toNat + 1) 0 Pa else fX9_acted_57 Bg Pa st answer (((314 : Int32).toInt - (0 : Int32).toInt).toNat + 1) 0 Pa st) else (answer, Pa, st))

set_option maxHeartbeats 4000000 in
set_option maxRecDepth 100000 in
/-- X9_acted -/
theorem mX9_acted (l : Launch) (D : va_G) (cI cC cS : ClassId) (sz : Nat) (o : Nat) (q1 : Nat) (q2 : Nat) (q3 : Nat) (q4 : Nat) (q5 : Nat) (S : Nat → Int32) (Bg : Nat → Int32) (Pa : Nat → Int32) (Tx : Nat → Int32) (Nu : Nat → Int32) (st : Int32) (ln : Int32) (ps : Int32) (fm : Bool) (rs : Int32) (answer : Int32) (ht : vp_in st 5) : Met l yX9_acted wsX9_acted ({ frames := 0, cells := 0, slots := 0, locals := 0 } : Jvm.Room) (va_Pc [.ref o, .int answer] (wPre D (TY cI cC cS) [(o, .inr (7, [.ref q1, .ref q2, .ref q3, .int st, .ref q4, .int ln, .int ps, .int (bi fm), .int rs, .ref q5])), (q1, .inl (cI, 314, .inl S)), (q2, .inl (cI, 314, .inl Bg)), (q3, .inl (cI, 1256, .inl Pa)), (q4, .inl (cI, 80, .inl Tx)), (q5, .inl (cI, 5, .inl Nu))] sz X0)) (qI D (TY cI cC cS) (fun (r : Int32) (u : Int32 × (Nat → Int32) × Int32) => fX9_acted Bg Pa st answer = u ∧ r = u.1) (fun u => [(o, .inr (7, [.ref q1, .ref q2, .ref q3, .int u.2.2, .ref q4, .int ln, .int ps, .int (bi fm), .int rs, .ref q5])), (q1, .inl (cI, 314, .inl S)), (q2, .inl (cI, 314, .inl Bg)), (q3, .inl (cI, 1256, .inl u.2.1)), (q4, .inl (cI, 80, .inl Tx)), (q5, .inl (cI, 5, .inl Nu))]) (va_A [(o, .inr (7, [.ref q1, .ref q2, .ref q3, .int st, .ref q4, .int ln, .int ps, .int (bi fm), .int rs, .ref q5])), (q1, .inl (cI, 314, .inl S)), (q2, .inl (cI, 314, .inl Bg)), (q3, .inl (cI, 1256, .inl Pa)), (q4, .inl (cI, 80, .inl Tx)), (q5, .inl (cI, 5, .inl Nu))] sz)) 0 0 (va_A [(o, .inr (7, [.ref q1, .ref q2, .ref q3, .int st, .ref q4, .int ln, .int ps, .int (bi fm), .int rs, .ref q5])), (q1, .inl (cI, 314, .inl S)), (q2, .inl (cI, 314, .inl Bg)), (q3, .inl (cI, 1256, .inl Pa)), (q4, .inl (cI, 80, .inl Tx)), (q5, .inl (cI, 5, .inl Nu))] sz) := by
  refine mkM (fun Fr => qI D (TY cI cC cS) (fun (r : Int32) (u : Int32 × (Nat → Int32) × Int32) => fX9_acted Bg Pa st answer = u ∧ r = u.1) (fun u => [(o, .inr (7, [.ref q1, .ref q2, .ref q3, .int u.2.2, .ref q4, .int ln, .int ps, .int (bi fm), .int rs, .ref q5])), (q1, .inl (cI, 314, .inl S)), (q2, .inl (cI, 314, .inl Bg)), (q3, .inl (cI, 1256, .inl u.2.1)), (q4, .inl (cI, 80, .inl Tx)), (q5, .inl (cI, 5, .inl Nu))]) Fr) (cc := cX9_acted) (maxL := 3) (ret := (some .int)) (own := RX9) (lv := [(0, .ref o), (1, .int answer)]) (by decide) rfl rfl (Nat.le_of_ble_eq_true rfl) rfl ?_
  intro p e s m below meth c Fr ls hx hb hr hts hown hml hlk hin hP hK hD hS hA hAe hsz hX hl
  have w_1 := hts (.fieldLink RX9 25 "FieldQuotasModel" "states" "I") (List.mem_of_getElem? (i := 1) rfl)
  have w_2 := sub_r (big := wsX9_acted) (u_ws RX9 TX9 10) [4, 5, 6, 7, 8, 9, 10, 11, 12, 13] rfl
  have w_3 := hts (.fieldLink RX9 16 "FieldQuotasModel" "past" "[I") (List.mem_of_getElem? (i := 2) rfl)
  have w_4 := hts (.fieldLink RX9 13 "FieldQuotasModel" "begun" "[I") (List.mem_of_getElem? (i := 3) rfl)
  refine lv_iload_n hx hb dX9_acted_0 rfl (lv_at hl 1 rfl) ?_
  refine lv_if_ge (tgt := 6) hx hb dX9_acted_1 (by decide) (fun c1 => ?_) (fun c1 => ?_)
  · refine lv_aload_n hx hb dX9_acted_6 rfl (lv_at hl 0 rfl) ?_
    refine va_get (D := D) (ci := 7) (C := RX9) (T := TX9) (N := 10) hx hb hts w_2 hown hK hP 0 rfl rfl 3 (by decide) w_1 (fun _ h9 => h9) rfl dX9_acted_7 ?_
    refine lv_iconst (v := 4) hx hb dX9_acted_10 (by decide) ?_
    refine lv_icmp_ne (tgt := 55) hx hb dX9_acted_11 (by decide) (fun c11 => ?_) (fun c11 => ?_)
    · refine lv_iconst (v := 0) hx hb dX9_acted_55 (by decide) ?_
      refine lv_istore_n (lv' := [(2, .int 0), (0, .ref o), (1, .int answer)]) hx hb dX9_acted_56 rfl hl (by decide) rfl (fun ls hl => ?_)
      have K_57 : ∀ (fu : Nat) (x2 : Int32) (Q : Nat → Int32) (t : Int32) (H : Heap) (locs : List Loc) (ls : Array Slot), va_P D vwCl [(o, .inr (7, [.ref q1, .ref q2, .ref q3, .int t, .ref q4, .int ln, .int ps, .int (bi fm), .int rs, .ref q5])), (q1, .inl (cI, 314, .inl S)), (q2, .inl (cI, 314, .inl Bg)), (q3, .inl (cI, 1256, .inl Q)), (q4, .inl (cI, 80, .inl Tx)), (q5, .inl (cI, 5, .inl Nu))] H → va_D Fr [(o, .inr (7, [.ref q1, .ref q2, .ref q3, .int t, .ref q4, .int ln, .int ps, .int (bi fm), .int rs, .ref q5])), (q1, .inl (cI, 314, .inl S)), (q2, .inl (cI, 314, .inl Bg)), (q3, .inl (cI, 1256, .inl Q)), (q4, .inl (cI, 80, .inl Tx)), (q5, .inl (cI, 5, .inl Nu))] → va_S Fr s.heap H locs → lv_has ls 3 [(0, .ref o), (1, .int answer), (2, .int x2)] → (¬ x2 < 0) → (vp_in t 4) → ((314 : Int32).toInt - x2.toInt).toNat < fu → fX9_acted Bg Pa st answer = fX9_acted_57 Bg Pa st answer fu x2 Q t → W p l e (headSpec wsX9_acted ({ frames := 0, cells := 0, slots := 0, locals := 0 } : Jvm.Room)).room s m ([.ref o, .int answer] : List Value).toArray below meth c H locs 0 0 (MQ below (qI D (TY cI cC cS) (fun (r : Int32) (u : Int32 × (Nat → Int32) × Int32) => fX9_acted Bg Pa st answer = u ∧ r = u.1) (fun u => [(o, .inr (7, [.ref q1, .ref q2, .ref q3, .int u.2.2, .ref q4, .int ln, .int ps, .int (bi fm), .int rs, .ref q5])), (q1, .inl (cI, 314, .inl S)), (q2, .inl (cI, 314, .inl Bg)), (q3, .inl (cI, 1256, .inl u.2.1)), (q4, .inl (cI, 80, .inl Tx)), (q5, .inl (cI, 5, .inl Nu))]) Fr) ([.ref o, .int answer] : List Value).toArray s 0 0 Fr) (F0 m 57 ls []) := by
        intro fu
        induction fu with
        | zero => intros; exact absurd (by assumption) (Nat.not_lt_zero _)
        | succ fu ih_57 =>
          intro x2 Q t H locs ls hP hD hS hl hi0 hb4 hm_57 E_57
          refine lv_iload_n hx hb dX9_acted_57 rfl (lv_at hl 2 rfl) ?_
          refine lv_sipush (v := 314) hx hb dX9_acted_58 (by decide) ?_
          refine lv_icmp_ge (tgt := 91) hx hb dX9_acted_61 (by decide) (fun c61 => ?_) (fun c61 => ?_)
          · refine lv_aload_n hx hb dX9_acted_91 rfl (lv_at hl 0 rfl) ?_
            refine lv_dup hx hb dX9_acted_92 rfl ?_
            refine va_get (D := D) (ci := 7) (C := RX9) (T := TX9) (N := 10) hx hb hts w_2 hown hK hP 0 rfl rfl 3 (by decide) w_1 (fun _ h9 => h9) rfl dX9_acted_93 ?_
            refine lv_iconst (v := 1) hx hb dX9_acted_96 (by decide) ?_
            refine lv_iadd hx hb dX9_acted_97 ?_
            refine va_put (D := D) (ci := 7) (v := .int (t + 1)) (ty := .int) (C := RX9) (T := TX9) (N := 10) hx hb hts w_2 tyX9 tyX9_ok nmX9 hown hK hP hD hS 0 rfl rfl 3 (by decide) w_1 (fun _ h9 => h9) rfl (by decide +kernel) rfl rfl (Nat.le_of_ble_eq_true rfl) dX9_acted_98 (fun H locs hP hD hS => ?_)
            have hP : va_P D vwCl [(o, .inr (7, [.ref q1, .ref q2, .ref q3, .int (t + 1), .ref q4, .int ln, .int ps, .int (bi fm), .int rs, .ref q5])), (q1, .inl (cI, 314, .inl S)), (q2, .inl (cI, 314, .inl Bg)), (q3, .inl (cI, 1256, .inl Q)), (q4, .inl (cI, 80, .inl Tx)), (q5, .inl (cI, 5, .inl Nu))] H := hP
            have hD : va_D Fr [(o, .inr (7, [.ref q1, .ref q2, .ref q3, .int (t + 1), .ref q4, .int ln, .int ps, .int (bi fm), .int rs, .ref q5])), (q1, .inl (cI, 314, .inl S)), (q2, .inl (cI, 314, .inl Bg)), (q3, .inl (cI, 1256, .inl Q)), (q4, .inl (cI, 80, .inl Tx)), (q5, .inl (cI, 5, .inl Nu))] := hD
            refine lv_iload_n hx hb dX9_acted_101 rfl (lv_at hl 1 rfl) ?_
            exact endI hx hb hr hlk hP hK hD hS dX9_acted_102 (answer, Q, t + 1) rfl ⟨(E_57).trans ((fX9_acted_57_s Bg Pa st answer fu x2 Q t).trans ((if_pos c61).trans rfl)), rfl⟩
          · refine lv_aload_n hx hb dX9_acted_64 rfl (lv_at hl 0 rfl) ?_
            refine va_get (D := D) (ci := 7) (C := RX9) (T := TX9) (N := 10) hx hb hts w_2 hown hK hP 0 rfl rfl 2 (by decide) w_3 (fun _ h9 => h9) rfl dX9_acted_65 ?_
            refine lv_sipush (v := 314) hx hb dX9_acted_68 (by decide) ?_
            refine lv_aload_n hx hb dX9_acted_71 rfl (lv_at hl 0 rfl) ?_
            refine va_get (D := D) (ci := 7) (C := RX9) (T := TX9) (N := 10) hx hb hts w_2 hown hK hP 0 rfl rfl 3 (by decide) w_1 (fun _ h9 => h9) rfl dX9_acted_72 ?_
            refine lv_imul hx hb dX9_acted_75 ?_
            refine lv_iload_n hx hb dX9_acted_76 rfl (lv_at hl 2 rfl) ?_
            refine lv_iadd hx hb dX9_acted_77 ?_
            refine lv_aload_n hx hb dX9_acted_78 rfl (lv_at hl 0 rfl) ?_
            refine va_get (D := D) (ci := 7) (C := RX9) (T := TX9) (N := 10) hx hb hts w_2 hown hK hP 0 rfl rfl 1 (by decide) w_4 (fun _ h9 => h9) rfl dX9_acted_79 ?_
            refine lv_iload_n hx hb dX9_acted_82 rfl (lv_at hl 2 rfl) ?_
            refine va_iald hx hb hK hP 2 0 rfl rfl (vp_k hi0 c61 (vp_d rfl)) dX9_acted_83 ?_
            refine va_iast hx hb hK hP hD hS 3 0 rfl rfl (ix_pa hb4 (vp_k hi0 c61 (vp_d rfl))) dX9_acted_84 (fun H locs hP hD hS => ?_)
            have hP : va_P D vwCl [(o, .inr (7, [.ref q1, .ref q2, .ref q3, .int t, .ref q4, .int ln, .int ps, .int (bi fm), .int rs, .ref q5])), (q1, .inl (cI, 314, .inl S)), (q2, .inl (cI, 314, .inl Bg)), (q3, .inl (cI, 1256, .inl (upd Q ((314 * t) + x2).toNatClampNeg (Bg x2.toNatClampNeg)))), (q4, .inl (cI, 80, .inl Tx)), (q5, .inl (cI, 5, .inl Nu))] H := hP
            have hD : va_D Fr [(o, .inr (7, [.ref q1, .ref q2, .ref q3, .int t, .ref q4, .int ln, .int ps, .int (bi fm), .int rs, .ref q5])), (q1, .inl (cI, 314, .inl S)), (q2, .inl (cI, 314, .inl Bg)), (q3, .inl (cI, 1256, .inl (upd Q ((314 * t) + x2).toNatClampNeg (Bg x2.toNatClampNeg)))), (q4, .inl (cI, 80, .inl Tx)), (q5, .inl (cI, 5, .inl Nu))] := hD
            refine lv_iinc (v := x2 + 1) (lv' := [(2, .int (x2 + 1)), (0, .ref o), (1, .int answer)]) hx hb dX9_acted_85 hl (k := 2) rfl (by rfl) (by decide) rfl (fun ls hl => ?_)
            refine lv_goto (tgt := 57) hx hb dX9_acted_88 (by decide) ?_
            exact ih_57 (x2 + 1) (upd Q ((314 * t) + x2).toNatClampNeg (Bg x2.toNatClampNeg)) t _ _ ls hP hD hS (lv_sub hl [1, 2, 0] rfl) (up_k hi0 c61) hb4 (Nat.lt_of_lt_of_le (lp_dec c61) (Nat.le_of_lt_succ hm_57)) ((E_57).trans ((fX9_acted_57_s Bg Pa st answer fu x2 Q t).trans ((if_neg c61).trans rfl)))
      exact K_57 (((314 : Int32).toInt - (0 : Int32).toInt).toNat + 1) 0 Pa st _ _ ls hP hD hS (lv_sub hl [1, 2, 0] rfl) (by decide) (by first | exact vp_m1 ht (by assumption) | exact vp_ne ht (by decide) c11 | (rw [c11]; exact vp_d rfl)) (Nat.lt_succ_self _) ((if_pos c1).trans ((if_neg c11).trans rfl))
    · refine lv_iconst (v := 0) hx hb dX9_acted_14 (by decide) ?_
      refine lv_istore_n (lv' := [(2, .int 0), (0, .ref o), (1, .int answer)]) hx hb dX9_acted_15 rfl hl (by decide) rfl (fun ls hl => ?_)
      have K_16 : ∀ (fu : Nat) (x2 : Int32) (Q : Nat → Int32) (H : Heap) (locs : List Loc) (ls : Array Slot), va_P D vwCl [(o, .inr (7, [.ref q1, .ref q2, .ref q3, .int st, .ref q4, .int ln, .int ps, .int (bi fm), .int rs, .ref q5])), (q1, .inl (cI, 314, .inl S)), (q2, .inl (cI, 314, .inl Bg)), (q3, .inl (cI, 1256, .inl Q)), (q4, .inl (cI, 80, .inl Tx)), (q5, .inl (cI, 5, .inl Nu))] H → va_D Fr [(o, .inr (7, [.ref q1, .ref q2, .ref q3, .int st, .ref q4, .int ln, .int ps, .int (bi fm), .int rs, .ref q5])), (q1, .inl (cI, 314, .inl S)), (q2, .inl (cI, 314, .inl Bg)), (q3, .inl (cI, 1256, .inl Q)), (q4, .inl (cI, 80, .inl Tx)), (q5, .inl (cI, 5, .inl Nu))] → va_S Fr s.heap H locs → lv_has ls 3 [(0, .ref o), (1, .int answer), (2, .int x2)] → (¬ x2 < 0) → ((942 : Int32).toInt - x2.toInt).toNat < fu → fX9_acted Bg Pa st answer = fX9_acted_16 Bg Pa st answer fu x2 Q → W p l e (headSpec wsX9_acted ({ frames := 0, cells := 0, slots := 0, locals := 0 } : Jvm.Room)).room s m ([.ref o, .int answer] : List Value).toArray below meth c H locs 0 0 (MQ below (qI D (TY cI cC cS) (fun (r : Int32) (u : Int32 × (Nat → Int32) × Int32) => fX9_acted Bg Pa st answer = u ∧ r = u.1) (fun u => [(o, .inr (7, [.ref q1, .ref q2, .ref q3, .int u.2.2, .ref q4, .int ln, .int ps, .int (bi fm), .int rs, .ref q5])), (q1, .inl (cI, 314, .inl S)), (q2, .inl (cI, 314, .inl Bg)), (q3, .inl (cI, 1256, .inl u.2.1)), (q4, .inl (cI, 80, .inl Tx)), (q5, .inl (cI, 5, .inl Nu))]) Fr) ([.ref o, .int answer] : List Value).toArray s 0 0 Fr) (F0 m 16 ls []) := by
        intro fu
        induction fu with
        | zero => intros; exact absurd (by assumption) (Nat.not_lt_zero _)
        | succ fu ih_16 =>
          intro x2 Q H locs ls hP hD hS hl hi0 hm_16 E_16
          refine lv_iload_n hx hb dX9_acted_16 rfl (lv_at hl 2 rfl) ?_
          refine lv_sipush (v := 942) hx hb dX9_acted_17 (by decide) ?_
          refine lv_icmp_ge (tgt := 45) hx hb dX9_acted_20 (by decide) (fun c20 => ?_) (fun c20 => ?_)
          · refine lv_aload_n hx hb dX9_acted_45 rfl (lv_at hl 0 rfl) ?_
            refine lv_dup hx hb dX9_acted_46 rfl ?_
            refine va_get (D := D) (ci := 7) (C := RX9) (T := TX9) (N := 10) hx hb hts w_2 hown hK hP 0 rfl rfl 3 (by decide) w_1 (fun _ h9 => h9) rfl dX9_acted_47 ?_
            refine lv_iconst (v := 1) hx hb dX9_acted_50 (by decide) ?_
            refine lv_isub hx hb dX9_acted_51 ?_
            refine va_put (D := D) (ci := 7) (v := .int (st - 1)) (ty := .int) (C := RX9) (T := TX9) (N := 10) hx hb hts w_2 tyX9 tyX9_ok nmX9 hown hK hP hD hS 0 rfl rfl 3 (by decide) w_1 (fun _ h9 => h9) rfl (by decide +kernel) rfl rfl (Nat.le_of_ble_eq_true rfl) dX9_acted_52 (fun H locs hP hD hS => ?_)
            have hP : va_P D vwCl [(o, .inr (7, [.ref q1, .ref q2, .ref q3, .int (st - 1), .ref q4, .int ln, .int ps, .int (bi fm), .int rs, .ref q5])), (q1, .inl (cI, 314, .inl S)), (q2, .inl (cI, 314, .inl Bg)), (q3, .inl (cI, 1256, .inl Q)), (q4, .inl (cI, 80, .inl Tx)), (q5, .inl (cI, 5, .inl Nu))] H := hP
            have hD : va_D Fr [(o, .inr (7, [.ref q1, .ref q2, .ref q3, .int (st - 1), .ref q4, .int ln, .int ps, .int (bi fm), .int rs, .ref q5])), (q1, .inl (cI, 314, .inl S)), (q2, .inl (cI, 314, .inl Bg)), (q3, .inl (cI, 1256, .inl Q)), (q4, .inl (cI, 80, .inl Tx)), (q5, .inl (cI, 5, .inl Nu))] := hD
            refine lv_iconst (v := 0) hx hb dX9_acted_55 (by decide) ?_
            refine lv_istore_n (lv' := [(2, .int 0), (0, .ref o), (1, .int answer)]) hx hb dX9_acted_56 rfl hl (by decide) rfl (fun ls hl => ?_)
            have K_57 : ∀ (fu : Nat) (x2 : Int32) (Q : Nat → Int32) (t : Int32) (H : Heap) (locs : List Loc) (ls : Array Slot), va_P D vwCl [(o, .inr (7, [.ref q1, .ref q2, .ref q3, .int t, .ref q4, .int ln, .int ps, .int (bi fm), .int rs, .ref q5])), (q1, .inl (cI, 314, .inl S)), (q2, .inl (cI, 314, .inl Bg)), (q3, .inl (cI, 1256, .inl Q)), (q4, .inl (cI, 80, .inl Tx)), (q5, .inl (cI, 5, .inl Nu))] H → va_D Fr [(o, .inr (7, [.ref q1, .ref q2, .ref q3, .int t, .ref q4, .int ln, .int ps, .int (bi fm), .int rs, .ref q5])), (q1, .inl (cI, 314, .inl S)), (q2, .inl (cI, 314, .inl Bg)), (q3, .inl (cI, 1256, .inl Q)), (q4, .inl (cI, 80, .inl Tx)), (q5, .inl (cI, 5, .inl Nu))] → va_S Fr s.heap H locs → lv_has ls 3 [(0, .ref o), (1, .int answer), (2, .int x2)] → (¬ x2 < 0) → (vp_in t 4) → ((314 : Int32).toInt - x2.toInt).toNat < fu → fX9_acted Bg Pa st answer = fX9_acted_57 Bg Pa st answer fu x2 Q t → W p l e (headSpec wsX9_acted ({ frames := 0, cells := 0, slots := 0, locals := 0 } : Jvm.Room)).room s m ([.ref o, .int answer] : List Value).toArray below meth c H locs 0 0 (MQ below (qI D (TY cI cC cS) (fun (r : Int32) (u : Int32 × (Nat → Int32) × Int32) => fX9_acted Bg Pa st answer = u ∧ r = u.1) (fun u => [(o, .inr (7, [.ref q1, .ref q2, .ref q3, .int u.2.2, .ref q4, .int ln, .int ps, .int (bi fm), .int rs, .ref q5])), (q1, .inl (cI, 314, .inl S)), (q2, .inl (cI, 314, .inl Bg)), (q3, .inl (cI, 1256, .inl u.2.1)), (q4, .inl (cI, 80, .inl Tx)), (q5, .inl (cI, 5, .inl Nu))]) Fr) ([.ref o, .int answer] : List Value).toArray s 0 0 Fr) (F0 m 57 ls []) := by
              intro fu
              induction fu with
              | zero => intros; exact absurd (by assumption) (Nat.not_lt_zero _)
              | succ fu ih_57 =>
                intro x2 Q t H locs ls hP hD hS hl hi0 hb4 hm_57 E_57
                refine lv_iload_n hx hb dX9_acted_57 rfl (lv_at hl 2 rfl) ?_
                refine lv_sipush (v := 314) hx hb dX9_acted_58 (by decide) ?_
                refine lv_icmp_ge (tgt := 91) hx hb dX9_acted_61 (by decide) (fun c61 => ?_) (fun c61 => ?_)
                · refine lv_aload_n hx hb dX9_acted_91 rfl (lv_at hl 0 rfl) ?_
                  refine lv_dup hx hb dX9_acted_92 rfl ?_
                  refine va_get (D := D) (ci := 7) (C := RX9) (T := TX9) (N := 10) hx hb hts w_2 hown hK hP 0 rfl rfl 3 (by decide) w_1 (fun _ h9 => h9) rfl dX9_acted_93 ?_
                  refine lv_iconst (v := 1) hx hb dX9_acted_96 (by decide) ?_
                  refine lv_iadd hx hb dX9_acted_97 ?_
                  refine va_put (D := D) (ci := 7) (v := .int (t + 1)) (ty := .int) (C := RX9) (T := TX9) (N := 10) hx hb hts w_2 tyX9 tyX9_ok nmX9 hown hK hP hD hS 0 rfl rfl 3 (by decide) w_1 (fun _ h9 => h9) rfl (by decide +kernel) rfl rfl (Nat.le_of_ble_eq_true rfl) dX9_acted_98 (fun H locs hP hD hS => ?_)
                  have hP : va_P D vwCl [(o, .inr (7, [.ref q1, .ref q2, .ref q3, .int (t + 1), .ref q4, .int ln, .int ps, .int (bi fm), .int rs, .ref q5])), (q1, .inl (cI, 314, .inl S)), (q2, .inl (cI, 314, .inl Bg)), (q3, .inl (cI, 1256, .inl Q)), (q4, .inl (cI, 80, .inl Tx)), (q5, .inl (cI, 5, .inl Nu))] H := hP
                  have hD : va_D Fr [(o, .inr (7, [.ref q1, .ref q2, .ref q3, .int (t + 1), .ref q4, .int ln, .int ps, .int (bi fm), .int rs, .ref q5])), (q1, .inl (cI, 314, .inl S)), (q2, .inl (cI, 314, .inl Bg)), (q3, .inl (cI, 1256, .inl Q)), (q4, .inl (cI, 80, .inl Tx)), (q5, .inl (cI, 5, .inl Nu))] := hD
                  refine lv_iload_n hx hb dX9_acted_101 rfl (lv_at hl 1 rfl) ?_
                  exact endI hx hb hr hlk hP hK hD hS dX9_acted_102 (answer, Q, t + 1) rfl ⟨(E_57).trans ((fX9_acted_57_s Bg Pa st answer fu x2 Q t).trans ((if_pos c61).trans rfl)), rfl⟩
                · refine lv_aload_n hx hb dX9_acted_64 rfl (lv_at hl 0 rfl) ?_
                  refine va_get (D := D) (ci := 7) (C := RX9) (T := TX9) (N := 10) hx hb hts w_2 hown hK hP 0 rfl rfl 2 (by decide) w_3 (fun _ h9 => h9) rfl dX9_acted_65 ?_
                  refine lv_sipush (v := 314) hx hb dX9_acted_68 (by decide) ?_
                  refine lv_aload_n hx hb dX9_acted_71 rfl (lv_at hl 0 rfl) ?_
                  refine va_get (D := D) (ci := 7) (C := RX9) (T := TX9) (N := 10) hx hb hts w_2 hown hK hP 0 rfl rfl 3 (by decide) w_1 (fun _ h9 => h9) rfl dX9_acted_72 ?_
                  refine lv_imul hx hb dX9_acted_75 ?_
                  refine lv_iload_n hx hb dX9_acted_76 rfl (lv_at hl 2 rfl) ?_
                  refine lv_iadd hx hb dX9_acted_77 ?_
                  refine lv_aload_n hx hb dX9_acted_78 rfl (lv_at hl 0 rfl) ?_
                  refine va_get (D := D) (ci := 7) (C := RX9) (T := TX9) (N := 10) hx hb hts w_2 hown hK hP 0 rfl rfl 1 (by decide) w_4 (fun _ h9 => h9) rfl dX9_acted_79 ?_
                  refine lv_iload_n hx hb dX9_acted_82 rfl (lv_at hl 2 rfl) ?_
                  refine va_iald hx hb hK hP 2 0 rfl rfl (vp_k hi0 c61 (vp_d rfl)) dX9_acted_83 ?_
                  refine va_iast hx hb hK hP hD hS 3 0 rfl rfl (ix_pa hb4 (vp_k hi0 c61 (vp_d rfl))) dX9_acted_84 (fun H locs hP hD hS => ?_)
                  have hP : va_P D vwCl [(o, .inr (7, [.ref q1, .ref q2, .ref q3, .int t, .ref q4, .int ln, .int ps, .int (bi fm), .int rs, .ref q5])), (q1, .inl (cI, 314, .inl S)), (q2, .inl (cI, 314, .inl Bg)), (q3, .inl (cI, 1256, .inl (upd Q ((314 * t) + x2).toNatClampNeg (Bg x2.toNatClampNeg)))), (q4, .inl (cI, 80, .inl Tx)), (q5, .inl (cI, 5, .inl Nu))] H := hP
                  have hD : va_D Fr [(o, .inr (7, [.ref q1, .ref q2, .ref q3, .int t, .ref q4, .int ln, .int ps, .int (bi fm), .int rs, .ref q5])), (q1, .inl (cI, 314, .inl S)), (q2, .inl (cI, 314, .inl Bg)), (q3, .inl (cI, 1256, .inl (upd Q ((314 * t) + x2).toNatClampNeg (Bg x2.toNatClampNeg)))), (q4, .inl (cI, 80, .inl Tx)), (q5, .inl (cI, 5, .inl Nu))] := hD
                  refine lv_iinc (v := x2 + 1) (lv' := [(2, .int (x2 + 1)), (0, .ref o), (1, .int answer)]) hx hb dX9_acted_85 hl (k := 2) rfl (by rfl) (by decide) rfl (fun ls hl => ?_)
                  refine lv_goto (tgt := 57) hx hb dX9_acted_88 (by decide) ?_
                  exact ih_57 (x2 + 1) (upd Q ((314 * t) + x2).toNatClampNeg (Bg x2.toNatClampNeg)) t _ _ ls hP hD hS (lv_sub hl [1, 2, 0] rfl) (up_k hi0 c61) hb4 (Nat.lt_of_lt_of_le (lp_dec c61) (Nat.le_of_lt_succ hm_57)) ((E_57).trans ((fX9_acted_57_s Bg Pa st answer fu x2 Q t).trans ((if_neg c61).trans rfl)))
            exact K_57 (((314 : Int32).toInt - (0 : Int32).toInt).toNat + 1) 0 Q (st - 1) _ _ ls hP hD hS (lv_sub hl [1, 2, 0] rfl) (by decide) (by first | exact vp_m1 ht (by assumption) | exact vp_ne ht (by decide) c11 | (rw [c11]; exact vp_d rfl)) (Nat.lt_succ_self _) ((E_16).trans ((fX9_acted_16_s Bg Pa st answer fu x2 Q).trans ((if_pos c20).trans rfl)))
          · refine lv_aload_n hx hb dX9_acted_23 rfl (lv_at hl 0 rfl) ?_
            refine va_get (D := D) (ci := 7) (C := RX9) (T := TX9) (N := 10) hx hb hts w_2 hown hK hP 0 rfl rfl 2 (by decide) w_3 (fun _ h9 => h9) rfl dX9_acted_24 ?_
            refine lv_iload_n hx hb dX9_acted_27 rfl (lv_at hl 2 rfl) ?_
            refine lv_aload_n hx hb dX9_acted_28 rfl (lv_at hl 0 rfl) ?_
            refine va_get (D := D) (ci := 7) (C := RX9) (T := TX9) (N := 10) hx hb hts w_2 hown hK hP 0 rfl rfl 2 (by decide) w_3 (fun _ h9 => h9) rfl dX9_acted_29 ?_
            refine lv_iload_n hx hb dX9_acted_32 rfl (lv_at hl 2 rfl) ?_
            refine lv_sipush (v := 314) hx hb dX9_acted_33 (by decide) ?_
            refine lv_iadd hx hb dX9_acted_36 ?_
            refine va_iald hx hb hK hP 3 0 rfl rfl (ix_942 hi0 c20) dX9_acted_37 ?_
            refine va_iast hx hb hK hP hD hS 3 0 rfl rfl (vp_le (vp_k (n := 942) hi0 c20 (vp_d rfl)) (by decide)) dX9_acted_38 (fun H locs hP hD hS => ?_)
            have hP : va_P D vwCl [(o, .inr (7, [.ref q1, .ref q2, .ref q3, .int st, .ref q4, .int ln, .int ps, .int (bi fm), .int rs, .ref q5])), (q1, .inl (cI, 314, .inl S)), (q2, .inl (cI, 314, .inl Bg)), (q3, .inl (cI, 1256, .inl (upd Q x2.toNatClampNeg (Q (x2 + 314).toNatClampNeg)))), (q4, .inl (cI, 80, .inl Tx)), (q5, .inl (cI, 5, .inl Nu))] H := hP
            have hD : va_D Fr [(o, .inr (7, [.ref q1, .ref q2, .ref q3, .int st, .ref q4, .int ln, .int ps, .int (bi fm), .int rs, .ref q5])), (q1, .inl (cI, 314, .inl S)), (q2, .inl (cI, 314, .inl Bg)), (q3, .inl (cI, 1256, .inl (upd Q x2.toNatClampNeg (Q (x2 + 314).toNatClampNeg)))), (q4, .inl (cI, 80, .inl Tx)), (q5, .inl (cI, 5, .inl Nu))] := hD
            refine lv_iinc (v := x2 + 1) (lv' := [(2, .int (x2 + 1)), (0, .ref o), (1, .int answer)]) hx hb dX9_acted_39 hl (k := 2) rfl (by rfl) (by decide) rfl (fun ls hl => ?_)
            refine lv_goto (tgt := 16) hx hb dX9_acted_42 (by decide) ?_
            exact ih_16 (x2 + 1) (upd Q x2.toNatClampNeg (Q (x2 + 314).toNatClampNeg)) _ _ ls hP hD hS (lv_sub hl [1, 2, 0] rfl) (up_k hi0 c20) (Nat.lt_of_lt_of_le (lp_dec c20) (Nat.le_of_lt_succ hm_16)) ((E_16).trans ((fX9_acted_16_s Bg Pa st answer fu x2 Q).trans ((if_neg c20).trans rfl)))
      exact K_16 (((942 : Int32).toInt - (0 : Int32).toInt).toNat + 1) 0 Pa _ _ ls hP hD hS (lv_sub hl [1, 2, 0] rfl) (by decide) (Nat.lt_succ_self _) ((if_pos c1).trans ((if_pos c11).trans rfl))
  · refine lv_iload_n hx hb dX9_acted_4 rfl (lv_at hl 1 rfl) ?_
    exact endI hx hb hr hlk hP hK hD hS dX9_acted_5 (answer, Pa, st) rfl ⟨(if_neg c1).trans rfl, rfl⟩


