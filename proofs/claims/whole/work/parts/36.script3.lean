/-- the loop of X4_readCommand at 44 -/
def fX4_readCommand_44 (Cf : Nat → Int32) (Nf : Nat → Int32) (len : Int32) (start : Int32) (vk_3 : Nat) : Nat → Int32 → (Nat → Int32) → Int32 → Bool × (Nat → Int32) × Option Nat × Int32
  | 0, _, _, _ => default
  | fu + 1, x2, QN, pp =>
    (if vNum.getD vk_3 0 ≤ x2 then bd2 (fX4_readSign Cf len pp 59) (fun (r_6 : Bool) (u_7 : Int32) => (r_6, QN, (some vk_3), u_7)) else (if Int32.ofNat 5 ≤ x2 then bd2 (fX4_readSign Cf len pp 59) (fun (r_9 : Bool) (u_10 : Int32) => (r_9, QN, (some vk_3), u_10)) else bd2 (fX4_readSign Cf len pp 32) (fun (r_12 : Bool) (u_13 : Int32) => (if r_12 = true then bd3 (fX4_readNumber Cf QN len u_13 x2) (fun (r_15 : Bool) (u_16 : Nat → Int32) (u_17 : Int32) => (if r_15 = true then fX4_readCommand_44 Cf Nf len start vk_3 fu (x2 + 1) u_16 u_17 else (false, u_16, (some vk_3), u_17))) else (false, QN, (some vk_3), u_13)))))
theorem fX4_readCommand_44_s (Cf : Nat → Int32) (Nf : Nat → Int32) (len : Int32) (start : Int32) (vk_3 : Nat) (fu : Nat) (x2 : Int32) (QN : Nat → Int32) (pp : Int32) : fX4_readCommand_44 Cf Nf len start vk_3 (fu + 1) x2 QN pp =
    (if vNum.getD vk_3 0 ≤ x2 then bd2 (fX4_readSign Cf len pp 59) (fun (r_6 : Bool) (u_7 : Int32) => (r_6, QN, (some vk_3), u_7)) else (if Int32.ofNat 5 ≤ x2 then bd2 (fX4_readSign Cf len pp 59) (fun (r_9 : Bool) (u_10 : Int32) => (r_9, QN, (some vk_3), u_10)) else bd2 (fX4_readSign Cf len pp 32) (fun (r_12 : Bool) (u_13 : Int32) => (if r_12 = true then bd3 (fX4_readNumber Cf QN len u_13 x2) (fun (r_15 : Bool) (u_16 : Nat → Int32) (u_17 : Int32) => (if r_15 = true then fX4_readCommand_44 Cf Nf len start vk_3 fu (x2 + 1) u_16 u_17 else (false, u_16, (some vk_3), u_17))) else (false, QN, (some vk_3), u_13))))) := rfl

/-- the value of X4_readCommand, path by path -/
def fX4_readCommand (Cf : Nat → Int32) (Nf : Nat → Int32) (len : Int32) (start : Int32) : Bool × (Nat → Int32) × Option Nat × Int32 :=
  bd1 (fX4_verbAt Cf len start) (fun (r_2 : Option Nat) => bdo r_2 (false, Nf, none, start) (fun (vk_3 : Nat) => fX4_readCommand_44 Cf Nf len start vk_3 (((Int32.ofNat 5).toInt - (0 : Int32).toInt).toNat + 1) 0 Nf (start + (Int32.ofNat (vLen.getD vk_3 0)))))

set_option maxHeartbeats 4000000 in
set_option maxRecDepth 100000 in
/-- X4_readCommand -/
theorem mX4_readCommand (l : Launch) (D : va_G) (cI cC cS : ClassId) (sz : Nat) (cs : Nat) (ck : Nat) (cn : Nat) (ad : Nat → Nat) (Cf : Nat → Int32) (Nf : Nat → Int32) (len : Int32) (vb : Option Nat) (pos : Int32) (adK : Nat → Nat) (adV : Nat → Nat) (tV : Nat) (tS : Nat) (start : Int32) (hC : ∀ k, narrow .char (.int (Cf k)) = .int (Cf k)) : Met l yX4_readCommand wsX4_readCommand ({ frames := 6, cells := 0, slots := 0, locals := 131 } : Jvm.Room) (va_Pc [.ref cs, .int start] (wPre D (TY cI cC cS) [(cs, .inr (3, [.ref ck, .ref cn, .int len, va_re ad vb, .int pos])), (ck, .inl (cC, 80, .inl Cf)), (cn, .inl (cI, 5, .inl Nf))] sz (wX ad adK adV tV tS ([(cs, .inr (3, [.ref ck, .ref cn, .int len, va_re ad vb, .int pos])), (ck, .inl (cC, 80, .inl Cf)), (cn, .inl (cI, 5, .inl Nf))]) sz))) (qI D (TY cI cC cS) (fun (r : Int32) (u : Bool × (Nat → Int32) × Option Nat × Int32) => fX4_readCommand Cf Nf len start = u ∧ r = bi u.1) (fun u => [(cs, .inr (3, [.ref ck, .ref cn, .int len, va_re ad u.2.2.1, .int u.2.2.2])), (ck, .inl (cC, 80, .inl Cf)), (cn, .inl (cI, 5, .inl u.2.1))]) (va_A [(cs, .inr (3, [.ref ck, .ref cn, .int len, va_re ad vb, .int pos])), (ck, .inl (cC, 80, .inl Cf)), (cn, .inl (cI, 5, .inl Nf))] sz)) 0 0 (va_A [(cs, .inr (3, [.ref ck, .ref cn, .int len, va_re ad vb, .int pos])), (ck, .inl (cC, 80, .inl Cf)), (cn, .inl (cI, 5, .inl Nf))] sz) := by
  refine mkM (y := yX4_readCommand) (wsl := wsX4_readCommand) (fun Fr => qI D (TY cI cC cS) (fun (r : Int32) (u : Bool × (Nat → Int32) × Option Nat × Int32) => fX4_readCommand Cf Nf len start = u ∧ r = bi u.1) (fun u => [(cs, .inr (3, [.ref ck, .ref cn, .int len, va_re ad u.2.2.1, .int u.2.2.2])), (ck, .inl (cC, 80, .inl Cf)), (cn, .inl (cI, 5, .inl u.2.1))]) Fr) (cc := cX4_readCommand) (maxL := 3) (ret := (some .boolean)) (own := RX4) (lv := [(0, .ref cs), (1, .int start)]) (by decide) rfl rfl (Nat.le_of_ble_eq_true rfl) rfl ?_
  intro p e s m below meth c Fr ls hx hb hr hts hown hml hlk hin hP hK hD hS hA hAe hsz hX hl
  have w_1 := hts (.fieldLink RX4 31 "FieldQuotas$Script" "position" "I") (List.mem_of_getElem? (i := 1) rfl)
  have w_2 := sub_r (big := wsX4_readCommand) (u_ws RX4 TX4 5) [80, 81, 82, 83, 84] rfl
  have w_3 := hts (.fieldLink RX4 27 "FieldQuotas$Script" "verb" "LFieldQuotas$Verb;") (List.mem_of_getElem? (i := 2) rfl)
  have w_4 := hts (.fieldLink RX4 15 "FieldQuotas$Script" "numbers" "[I") (List.mem_of_getElem? (i := 3) rfl)
  have hE : wE ad adK adV tV tS Fr s s.heap := by rw [hAe]; exact hX.1
  refine lv_aload_n hx hb dX4_readCommand_0 rfl (lv_at hl 0 rfl) ?_
  refine lv_iload_n hx hb dX4_readCommand_1 rfl (lv_at hl 1 rfl) ?_
  refine va_put (D := D) (ci := 3) (v := .int start) (ty := .int) (C := RX4) (T := TX4) (N := 5) hx hb hts w_2 tyX4 tyX4_ok nmX4 hown hK hP hD hS 0 rfl rfl 4 (by decide) w_1 (fun _ h9 => h9) rfl (by decide +kernel) rfl rfl (Nat.le_of_ble_eq_true rfl) dX4_readCommand_2 (fun H locs hP hD hS => ?_)
  have hP : va_P D vwCl [(cs, .inr (3, [.ref ck, .ref cn, .int len, va_re ad vb, .int start])), (ck, .inl (cC, 80, .inl Cf)), (cn, .inl (cI, 5, .inl Nf))] H := hP
  have hD : va_D Fr [(cs, .inr (3, [.ref ck, .ref cn, .int len, va_re ad vb, .int start])), (ck, .inl (cC, 80, .inl Cf)), (cn, .inl (cI, 5, .inl Nf))] := hD
  refine lv_aload_n hx hb dX4_readCommand_5 rfl (lv_at hl 0 rfl) ?_
  refine lv_aload_n hx hb dX4_readCommand_6 rfl (lv_at hl 0 rfl) ?_
  refine lv_iload_n hx hb dX4_readCommand_7 rfl (lv_at hl 1 rfl) ?_
  refine callVq (As := [.int start]) (rest := [.ref cs]) (mX4_verbAt l D cI cC cS _ cs ck cn ad Cf Nf len vb start adK adV tV tS start hC) ⟨hx, hb, hml, hown, hts⟩ (cwV 1 hts gX4_readCommand_X4_verbAt rfl rfl rfl (by decide +kernel) ⟨Nat.le_of_ble_eq_true rfl, Nat.le_of_ble_eq_true rfl⟩) wX_blind (wX_warm hE hX.2 hS (va_free hD hS hA [0, 1, 2] rfl)) hP hK hD hS hA hl [0, 1, 2] rfl rfl 0 3 rfl rfl rfl rfl rfl (Nat.le_of_ble_eq_true rfl) dX4_readCommand_8 ⟨Nat.zero_le _, Nat.zero_le _⟩ (fun _ => rfl) (fun u_ H locs hk2 hP hD hS => ?_)
  have hP : va_P D vwCl [(cs, .inr (3, [.ref ck, .ref cn, .int len, va_re ad vb, .int start])), (ck, .inl (cC, 80, .inl Cf)), (cn, .inl (cI, 5, .inl Nf))] H := hP
  have hD : va_D Fr [(cs, .inr (3, [.ref ck, .ref cn, .int len, va_re ad vb, .int start])), (ck, .inl (cC, 80, .inl Cf)), (cn, .inl (cI, 5, .inl Nf))] := hD
  cases u_ with
  | none =>
    refine W.eq (g2 := F0 m 11 ls [.null, .ref cs]) rfl ?_
    refine va_put (D := D) (ci := 3) (v := .null) (ty := (.object "FieldQuotas$Verb")) (C := RX4) (T := TX4) (N := 5) hx hb hts w_2 tyX4 tyX4_ok nmX4 hown hK hP hD hS 0 rfl rfl 3 (by decide) w_3 (fun _ h9 => h9) rfl (by decide +kernel) rfl rfl (Nat.le_of_ble_eq_true rfl) dX4_readCommand_11 (fun H locs hP hD hS => ?_)
    have hP : va_P D vwCl [(cs, .inr (3, [.ref ck, .ref cn, .int len, .null, .int start])), (ck, .inl (cC, 80, .inl Cf)), (cn, .inl (cI, 5, .inl Nf))] H := hP
    have hD : va_D Fr [(cs, .inr (3, [.ref ck, .ref cn, .int len, .null, .int start])), (ck, .inl (cC, 80, .inl Cf)), (cn, .inl (cI, 5, .inl Nf))] := hD
    refine lv_aload_n hx hb dX4_readCommand_14 rfl (lv_at hl 0 rfl) ?_
    refine va_get (D := D) (ci := 3) (C := RX4) (T := TX4) (N := 5) hx hb hts w_2 hown hK hP 0 rfl rfl 3 (by decide) w_3 (fun _ h9 => h9) rfl dX4_readCommand_15 ?_
    refine lv_ifnonnullN hx hb dX4_readCommand_18 ?_
    refine lv_iconst (v := 0) hx hb dX4_readCommand_21 (by decide) ?_
    exact endZ hx hb hr hlk hP hK hD hS dX4_readCommand_22 rfl (false, Nf, none, start) rfl ⟨(bd1_e hk2).trans ((bdo_n _ _).trans rfl), rfl⟩
  | some vk_3 =>
    have h7 : vk_3 < 7 := vb_lt hk2
    refine W.eq (g2 := F0 m 11 ls [.ref (ad vk_3), .ref cs]) rfl ?_
    refine va_put (D := D) (ci := 3) (v := .ref (ad vk_3)) (ty := (.object "FieldQuotas$Verb")) (C := RX4) (T := TX4) (N := 5) hx hb hts w_2 tyX4 tyX4_ok nmX4 hown hK hP hD hS 0 rfl rfl 3 (by decide) w_3 (fun _ h9 => h9) rfl (by decide +kernel) rfl rfl (Nat.le_of_ble_eq_true rfl) dX4_readCommand_11 (fun H locs hP hD hS => ?_)
    have hP : va_P D vwCl [(cs, .inr (3, [.ref ck, .ref cn, .int len, .ref (ad vk_3), .int start])), (ck, .inl (cC, 80, .inl Cf)), (cn, .inl (cI, 5, .inl Nf))] H := hP
    have hD : va_D Fr [(cs, .inr (3, [.ref ck, .ref cn, .int len, .ref (ad vk_3), .int start])), (ck, .inl (cC, 80, .inl Cf)), (cn, .inl (cI, 5, .inl Nf))] := hD
    refine lv_aload_n hx hb dX4_readCommand_14 rfl (lv_at hl 0 rfl) ?_
    refine va_get (D := D) (ci := 3) (C := RX4) (T := TX4) (N := 5) hx hb hts w_2 hown hK hP 0 rfl rfl 3 (by decide) w_3 (fun _ h9 => h9) rfl dX4_readCommand_15 ?_
    refine lv_ifnonnull (tgt := 23) hx hb dX4_readCommand_18 (by decide) ?_
    refine lv_aload_n hx hb dX4_readCommand_23 rfl (lv_at hl 0 rfl) ?_
    refine lv_dup hx hb dX4_readCommand_24 rfl ?_
    refine va_get (D := D) (ci := 3) (C := RX4) (T := TX4) (N := 5) hx hb hts w_2 hown hK hP 0 rfl rfl 4 (by decide) w_1 (fun _ h9 => h9) rfl dX4_readCommand_25 ?_
    refine lv_aload_n hx hb dX4_readCommand_28 rfl (lv_at hl 0 rfl) ?_
    refine va_get (D := D) (ci := 3) (C := RX4) (T := TX4) (N := 5) hx hb hts w_2 hown hK hP 0 rfl rfl 3 (by decide) w_3 (fun _ h9 => h9) rfl dX4_readCommand_29 ?_
    refine va_getXN (i := vk_3) hx hb hE.2.2.2.2.2.1 h7 hS hown (va_Nw.use rfl hX.2.2.2.2.2.1) (fun _ h9 => h9) dX4_readCommand_32 ?_
    refine W.eq (g2 := F0 m 35 ls [.ref (adK vk_3), .int start, .ref cs]) rfl ?_
    refine callJi (As := []) (rest := [.int start, .ref cs]) (mJ0_length_8abf5 l D cI cC cS _ ad adK adV tV tS vk_3 h7) ⟨hx, hb, hml, hown, hts⟩ (cwV 0 hts gX4_readCommand_J0_length_8abf5 rfl rfl rfl (by decide +kernel) ⟨Nat.le_of_ble_eq_true rfl, Nat.le_of_ble_eq_true rfl⟩) wX_blind (wX_warm hE hX.2 hS (va_free (wc := []) hD hS hA [] rfl)) (vk_recv hE.1 h7 hS) hP hK hD hS hA hl rfl rfl (Nat.le_of_ble_eq_true rfl) dX4_readCommand_35 ⟨Nat.zero_le _, Nat.zero_le _⟩ (fun u_ H locs hk4 hP hS => ?_)
    subst hk4
    refine W.eq (g2 := F0 m 38 ls [.int (Int32.ofNat (vLen.getD vk_3 0)), .int start, .ref cs]) rfl ?_
    refine lv_iadd hx hb dX4_readCommand_38 ?_
    refine va_put (D := D) (ci := 3) (v := .int (start + (Int32.ofNat (vLen.getD vk_3 0)))) (ty := .int) (C := RX4) (T := TX4) (N := 5) hx hb hts w_2 tyX4 tyX4_ok nmX4 hown hK hP hD hS 0 rfl rfl 4 (by decide) w_1 (fun _ h9 => h9) rfl (by decide +kernel) rfl rfl (Nat.le_of_ble_eq_true rfl) dX4_readCommand_39 (fun H locs hP hD hS => ?_)
    have hP : va_P D vwCl [(cs, .inr (3, [.ref ck, .ref cn, .int len, .ref (ad vk_3), .int (start + (Int32.ofNat (vLen.getD vk_3 0)))])), (ck, .inl (cC, 80, .inl Cf)), (cn, .inl (cI, 5, .inl Nf))] H := hP
    have hD : va_D Fr [(cs, .inr (3, [.ref ck, .ref cn, .int len, .ref (ad vk_3), .int (start + (Int32.ofNat (vLen.getD vk_3 0)))])), (ck, .inl (cC, 80, .inl Cf)), (cn, .inl (cI, 5, .inl Nf))] := hD
    refine lv_iconst (v := 0) hx hb dX4_readCommand_42 (by decide) ?_
    refine lv_istore_n (lv' := [(2, .int 0), (0, .ref cs), (1, .int start)]) hx hb dX4_readCommand_43 rfl hl (by decide) rfl (fun ls hl => ?_)
    have K_44 : ∀ (fu : Nat) (x2 : Int32) (QN : Nat → Int32) (pp : Int32) (H : Heap) (locs : List Loc) (ls : Array Slot), va_P D vwCl [(cs, .inr (3, [.ref ck, .ref cn, .int len, .ref (ad vk_3), .int pp])), (ck, .inl (cC, 80, .inl Cf)), (cn, .inl (cI, 5, .inl QN))] H → va_D Fr [(cs, .inr (3, [.ref ck, .ref cn, .int len, .ref (ad vk_3), .int pp])), (ck, .inl (cC, 80, .inl Cf)), (cn, .inl (cI, 5, .inl QN))] → va_S Fr s.heap H locs → lv_has ls 3 [(0, .ref cs), (1, .int start), (2, .int x2)] → ((Int32.ofNat 5).toInt - x2.toInt).toNat < fu → fX4_readCommand Cf Nf len start = fX4_readCommand_44 Cf Nf len start vk_3 fu x2 QN pp → W p l e (headSpec wsX4_readCommand ({ frames := 6, cells := 0, slots := 0, locals := 131 } : Jvm.Room)).room s m ([.ref cs, .int start] : List Value).toArray below meth c H locs 0 0 (MQ below (qI D (TY cI cC cS) (fun (r : Int32) (u : Bool × (Nat → Int32) × Option Nat × Int32) => fX4_readCommand Cf Nf len start = u ∧ r = bi u.1) (fun u => [(cs, .inr (3, [.ref ck, .ref cn, .int len, va_re ad u.2.2.1, .int u.2.2.2])), (ck, .inl (cC, 80, .inl Cf)), (cn, .inl (cI, 5, .inl u.2.1))]) Fr) ([.ref cs, .int start] : List Value).toArray s 0 0 Fr) (F0 m 44 ls []) := by
      intro fu
      induction fu with
      | zero => intros; exact absurd (by assumption) (Nat.not_lt_zero _)
      | succ fu ih_44 =>
        intro x2 QN pp H locs ls hP hD hS hl  hm_44 E_44
        refine lv_iload_n hx hb dX4_readCommand_44 rfl (lv_at hl 2 rfl) ?_
        refine lv_aload_n hx hb dX4_readCommand_45 rfl (lv_at hl 0 rfl) ?_
        refine va_get (D := D) (ci := 3) (C := RX4) (T := TX4) (N := 5) hx hb hts w_2 hown hK hP 0 rfl rfl 3 (by decide) w_3 (fun _ h9 => h9) rfl dX4_readCommand_46 ?_
        refine va_getXN (i := vk_3) hx hb hE.2.2.2.2.2.2.1 h7 hS hown (va_Nw.use rfl hX.2.2.2.2.2.2) (fun _ h9 => h9) dX4_readCommand_49 ?_
        refine W.eq (g2 := F0 m 52 ls [.int (vNum.getD vk_3 0), .int x2]) rfl ?_
        refine lv_icmp_ge (tgt := 89) hx hb dX4_readCommand_52 (by decide) (fun c52 => ?_) (fun c52 => ?_)
        · refine lv_aload_n hx hb dX4_readCommand_89 rfl (lv_at hl 0 rfl) ?_
          refine lv_bipush (v := 59) hx hb dX4_readCommand_90 (by decide) ?_
          refine callVi (As := [.int 59]) (rest := []) (mX4_readSign l D cI cC cS _ cs ck cn ad Cf QN len (some vk_3) pp 59 hC) ⟨hx, hb, hml, hown, hts⟩ (cwV 1 hts gX4_readCommand_X4_readSign rfl rfl rfl (by decide +kernel) ⟨Nat.le_of_ble_eq_true rfl, Nat.le_of_ble_eq_true rfl⟩) wN_blind (fun _ _ hW => wN_warm hW hX.2) hP hK hD hS hA hl [0, 1, 2] rfl rfl 0 3 rfl rfl rfl rfl rfl (Nat.le_of_ble_eq_true rfl) dX4_readCommand_92 ⟨Nat.zero_le _, Nat.zero_le _⟩ (fun _ => rfl) (fun u_ H locs hk7 hP hD hS => ?_)
          obtain ⟨r_6, u_7⟩ := u_
          have hP : va_P D vwCl [(cs, .inr (3, [.ref ck, .ref cn, .int len, .ref (ad vk_3), .int u_7])), (ck, .inl (cC, 80, .inl Cf)), (cn, .inl (cI, 5, .inl QN))] H := hP
          have hD : va_D Fr [(cs, .inr (3, [.ref ck, .ref cn, .int len, .ref (ad vk_3), .int u_7])), (ck, .inl (cC, 80, .inl Cf)), (cn, .inl (cI, 5, .inl QN))] := hD
          refine W.eq (g2 := F0 m 95 ls [.int (bi r_6)]) rfl ?_
          exact endZ hx hb hr hlk hP hK hD hS dX4_readCommand_95 (bi_nar _) (r_6, QN, (some vk_3), u_7) rfl ⟨(E_44).trans ((fX4_readCommand_44_s Cf Nf len start vk_3 fu x2 QN pp).trans ((if_pos c52).trans ((bd2_e hk7).trans rfl))), rfl⟩
        · refine lv_iload_n hx hb dX4_readCommand_55 rfl (lv_at hl 2 rfl) ?_
          refine lv_aload_n hx hb dX4_readCommand_56 rfl (lv_at hl 0 rfl) ?_
          refine va_get (D := D) (ci := 3) (C := RX4) (T := TX4) (N := 5) hx hb hts w_2 hown hK hP 0 rfl rfl 1 (by decide) w_4 (fun _ h9 => h9) rfl dX4_readCommand_57 ?_
          refine va_alen hx hb hK hP 2 0 rfl rfl rfl dX4_readCommand_60 ?_
          refine lv_icmp_ge (tgt := 89) hx hb dX4_readCommand_61 (by decide) (fun c61 => ?_) (fun c61 => ?_)
          · refine lv_aload_n hx hb dX4_readCommand_89 rfl (lv_at hl 0 rfl) ?_
            refine lv_bipush (v := 59) hx hb dX4_readCommand_90 (by decide) ?_
            refine callVi (As := [.int 59]) (rest := []) (mX4_readSign l D cI cC cS _ cs ck cn ad Cf QN len (some vk_3) pp 59 hC) ⟨hx, hb, hml, hown, hts⟩ (cwV 1 hts gX4_readCommand_X4_readSign rfl rfl rfl (by decide +kernel) ⟨Nat.le_of_ble_eq_true rfl, Nat.le_of_ble_eq_true rfl⟩) wN_blind (fun _ _ hW => wN_warm hW hX.2) hP hK hD hS hA hl [0, 1, 2] rfl rfl 0 3 rfl rfl rfl rfl rfl (Nat.le_of_ble_eq_true rfl) dX4_readCommand_92 ⟨Nat.zero_le _, Nat.zero_le _⟩ (fun _ => rfl) (fun u_ H locs hk10 hP hD hS => ?_)
            obtain ⟨r_9, u_10⟩ := u_
            have hP : va_P D vwCl [(cs, .inr (3, [.ref ck, .ref cn, .int len, .ref (ad vk_3), .int u_10])), (ck, .inl (cC, 80, .inl Cf)), (cn, .inl (cI, 5, .inl QN))] H := hP
            have hD : va_D Fr [(cs, .inr (3, [.ref ck, .ref cn, .int len, .ref (ad vk_3), .int u_10])), (ck, .inl (cC, 80, .inl Cf)), (cn, .inl (cI, 5, .inl QN))] := hD
            refine W.eq (g2 := F0 m 95 ls [.int (bi r_9)]) rfl ?_
            exact endZ hx hb hr hlk hP hK hD hS dX4_readCommand_95 (bi_nar _) (r_9, QN, (some vk_3), u_10) rfl ⟨(E_44).trans ((fX4_readCommand_44_s Cf Nf len start vk_3 fu x2 QN pp).trans ((if_neg c52).trans ((if_pos c61).trans ((bd2_e hk10).trans rfl)))), rfl⟩
          · refine lv_aload_n hx hb dX4_readCommand_64 rfl (lv_at hl 0 rfl) ?_
            refine lv_bipush (v := 32) hx hb dX4_readCommand_65 (by decide) ?_
            refine callVi (As := [.int 32]) (rest := []) (mX4_readSign l D cI cC cS _ cs ck cn ad Cf QN len (some vk_3) pp 32 hC) ⟨hx, hb, hml, hown, hts⟩ (cwV 1 hts gX4_readCommand_X4_readSign rfl rfl rfl (by decide +kernel) ⟨Nat.le_of_ble_eq_true rfl, Nat.le_of_ble_eq_true rfl⟩) wN_blind (fun _ _ hW => wN_warm hW hX.2) hP hK hD hS hA hl [0, 1, 2] rfl rfl 0 3 rfl rfl rfl rfl rfl (Nat.le_of_ble_eq_true rfl) dX4_readCommand_67 ⟨Nat.zero_le _, Nat.zero_le _⟩ (fun _ => rfl) (fun u_ H locs hk13 hP hD hS => ?_)
            obtain ⟨r_12, u_13⟩ := u_
            have hP : va_P D vwCl [(cs, .inr (3, [.ref ck, .ref cn, .int len, .ref (ad vk_3), .int u_13])), (ck, .inl (cC, 80, .inl Cf)), (cn, .inl (cI, 5, .inl QN))] H := hP
            have hD : va_D Fr [(cs, .inr (3, [.ref ck, .ref cn, .int len, .ref (ad vk_3), .int u_13])), (ck, .inl (cC, 80, .inl Cf)), (cn, .inl (cI, 5, .inl QN))] := hD
            refine W.eq (g2 := F0 m 70 ls [.int (bi r_12)]) rfl ?_
            refine lv_if_eq (tgt := 81) hx hb dX4_readCommand_70 (by decide) (fun c70 => ?_) (fun c70 => ?_)
            · refine lv_iconst (v := 0) hx hb dX4_readCommand_81 (by decide) ?_
              exact endZ hx hb hr hlk hP hK hD hS dX4_readCommand_82 rfl (false, QN, (some vk_3), u_13) rfl ⟨(E_44).trans ((fX4_readCommand_44_s Cf Nf len start vk_3 fu x2 QN pp).trans ((if_neg c52).trans ((if_neg c61).trans ((bd2_e hk13).trans ((if_neg (bi_z c70)).trans rfl))))), rfl⟩
            · refine lv_aload_n hx hb dX4_readCommand_73 rfl (lv_at hl 0 rfl) ?_
              refine lv_iload_n hx hb dX4_readCommand_74 rfl (lv_at hl 2 rfl) ?_
              refine callVi (As := [.int x2]) (rest := []) (mX4_readNumber l D cI cC cS _ cs ck cn ad Cf QN len (some vk_3) u_13 x2 hC) ⟨hx, hb, hml, hown, hts⟩ (cwV 1 hts gX4_readCommand_X4_readNumber rfl rfl rfl (by decide +kernel) ⟨Nat.le_of_ble_eq_true rfl, Nat.le_of_ble_eq_true rfl⟩) wN_blind (fun _ _ hW => wN_warm hW hX.2) hP hK hD hS hA hl [0, 1, 2] rfl rfl 0 3 rfl rfl rfl rfl rfl (Nat.le_of_ble_eq_true rfl) dX4_readCommand_75 ⟨Nat.zero_le _, Nat.zero_le _⟩ (fun _ => rfl) (fun u_ H locs hk17 hP hD hS => ?_)
              obtain ⟨r_15, u_16, u_17⟩ := u_
              have hP : va_P D vwCl [(cs, .inr (3, [.ref ck, .ref cn, .int len, .ref (ad vk_3), .int u_17])), (ck, .inl (cC, 80, .inl Cf)), (cn, .inl (cI, 5, .inl u_16))] H := hP
              have hD : va_D Fr [(cs, .inr (3, [.ref ck, .ref cn, .int len, .ref (ad vk_3), .int u_17])), (ck, .inl (cC, 80, .inl Cf)), (cn, .inl (cI, 5, .inl u_16))] := hD
              refine W.eq (g2 := F0 m 78 ls [.int (bi r_15)]) rfl ?_
              refine lv_if_ne (tgt := 83) hx hb dX4_readCommand_78 (by decide) (fun c78 => ?_) (fun c78 => ?_)
              · refine lv_iinc (v := x2 + 1) (lv' := [(2, .int (x2 + 1)), (0, .ref cs), (1, .int start)]) hx hb dX4_readCommand_83 hl (k := 2) rfl (by rfl) (by decide) rfl (fun ls hl => ?_)
                refine lv_goto (tgt := 44) hx hb dX4_readCommand_86 (by decide) ?_
                exact ih_44 (x2 + 1) u_16 u_17 _ _ ls hP hD hS (lv_sub hl [1, 2, 0] rfl) (Nat.lt_of_lt_of_le (lp_dec c61) (Nat.le_of_lt_succ hm_44)) ((E_44).trans ((fX4_readCommand_44_s Cf Nf len start vk_3 fu x2 QN pp).trans ((if_neg c52).trans ((if_neg c61).trans ((bd2_e hk13).trans ((if_pos (bi_o c70)).trans ((bd3_e hk17).trans ((if_pos (bi_o c78)).trans rfl))))))))
              · refine lv_iconst (v := 0) hx hb dX4_readCommand_81 (by decide) ?_
                exact endZ hx hb hr hlk hP hK hD hS dX4_readCommand_82 rfl (false, u_16, (some vk_3), u_17) rfl ⟨(E_44).trans ((fX4_readCommand_44_s Cf Nf len start vk_3 fu x2 QN pp).trans ((if_neg c52).trans ((if_neg c61).trans ((bd2_e hk13).trans ((if_pos (bi_o c70)).trans ((bd3_e hk17).trans ((if_neg (bi_z c78)).trans rfl))))))), rfl⟩
    exact K_44 (((Int32.ofNat 5).toInt - (0 : Int32).toInt).toNat + 1) 0 Nf (start + (Int32.ofNat (vLen.getD vk_3 0))) _ _ ls hP hD hS (lv_sub hl [1, 2, 0] rfl) (Nat.lt_succ_self _) ((bd1_e hk2).trans ((bdo_s _ _ _).trans rfl))

