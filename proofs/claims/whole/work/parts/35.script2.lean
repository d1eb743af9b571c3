/-- a constant's field, read by a nest mate -/
theorem va_getXN {p : Program} {l : Launch} {e : Env} {R : Room} {s : State} {m : MethodId} {args : Array Value} {below : List Frame} {meth : Method} {c : Code} {H : Heap} {locs : List Loc} {cells slots : Nat} {Q : State → Prop} {cc : ByteArray} {pc : Nat} {ls : Array Slot} {rest : List Value} {A : Nat → Prop} (hexec : p.tables.exec = Jvm.exec) (hb : c.code = cc) {o n d own ref host : String} {N : Nat} {v : Nat → Value} {ad : Nat → Nat} {index i : Nat} (hE : va_Ef N o n d v ad A s s.heap) (hi : i < N) (hS : va_S A s.heap H locs) (hown : s.vm.findClass own = some m.cls) (hlink : (Cond.fieldLinkNest own index ref n d host).before args s = true) (hsame : ∀ x, s.fieldFound? o n d = some x → s.fieldFound? ref n d = some x) (hdg : decode cc pc = .ok (.getfield index, 3))
    (kk : W p l e R s m args below meth c H locs cells slots Q (F0 m (pc + 3) ls (v i :: rest))) : W p l e R s m args below meth c H locs cells slots Q (F0 m pc ls (.ref (ad i) :: rest)) := by
  obtain ⟨cf, k, fi, f, cell, h1, h2, h3, h4, h5, h6⟩ := (hE i hi).kept hS.2.1
  exact va_Wgetf hexec hb hown hlink (hsame _ h1) h2 h3 h4 (v := v i) h5 rfl rfl hdg kk
theorem n7_of {x : Int32} (h1 : ¬ x < 0) (h2 : ¬ Int32.ofNat 7 ≤ x) : x.toNatClampNeg < 7 := Nat.not_le.mp (fun q => vp_in_of2 h1 h2 (by decide) (Or.inr q))
/-- an answer that may be none: the rest goes on either way -/
def bdo {α γ : Type} (x : Option α) (a : γ) (f : α → γ) : γ := match x with
  | none => a
  | some y => f y
theorem bdo_n {α γ : Type} (a : γ) (f : α → γ) : bdo none a f = a := rfl
theorem bdo_s {α γ : Type} (y : α) (a : γ) (f : α → γ) : bdo (some y) a f = f y := rfl
/-- the loop of X4_hasWordAt at 2 -/
def fX4_hasWordAt_2 (Cf : Nat → Int32) (len : Int32) (start : Int32) (wi : Nat) : Nat → Int32 → Bool
  | 0, _ => default
  | fu + 1, x3 =>
    (if Int32.ofNat (vLen.getD wi 0) ≤ x3 then true else bd1 (fX4_signAt Cf len (start + x3)) (fun (r_3 : Int32) => (if r_3 = fchr wi x3 then fX4_hasWordAt_2 Cf len start wi fu (x3 + 1) else false)))
theorem fX4_hasWordAt_2_s (Cf : Nat → Int32) (len : Int32) (start : Int32) (wi : Nat) (fu : Nat) (x3 : Int32) : fX4_hasWordAt_2 Cf len start wi (fu + 1) x3 =
    (if Int32.ofNat (vLen.getD wi 0) ≤ x3 then true else bd1 (fX4_signAt Cf len (start + x3)) (fun (r_3 : Int32) => (if r_3 = fchr wi x3 then fX4_hasWordAt_2 Cf len start wi fu (x3 + 1) else false))) := rfl

/-- the value of X4_hasWordAt, path by path -/
def fX4_hasWordAt (Cf : Nat → Int32) (len : Int32) (start : Int32) (wi : Nat) : Bool :=
  fX4_hasWordAt_2 Cf len start wi (((Int32.ofNat (vLen.getD wi 0)).toInt - (0 : Int32).toInt).toNat + 1) 0

set_option maxHeartbeats 4000000 in
set_option maxRecDepth 100000 in
/-- X4_hasWordAt -/
theorem mX4_hasWordAt (l : Launch) (D : va_G) (cI cC cS : ClassId) (sz : Nat) (cs : Nat) (ck : Nat) (cn : Nat) (ad : Nat → Nat) (Cf : Nat → Int32) (Nf : Nat → Int32) (len : Int32) (vb : Option Nat) (pos : Int32) (adK : Nat → Nat) (adV : Nat → Nat) (tV : Nat) (tS : Nat) (start : Int32) (wi : Nat) (hC : ∀ k, narrow .char (.int (Cf k)) = .int (Cf k)) (hwi : wi < 7) : Met l yX4_hasWordAt wsX4_hasWordAt ({ frames := 4, cells := 0, slots := 0, locals := 85 } : Jvm.Room) (va_Pc [.ref cs, .int start, .ref (adK wi)] (wPre D (TY cI cC cS) [(cs, .inr (3, [.ref ck, .ref cn, .int len, va_re ad vb, .int pos])), (ck, .inl (cC, 80, .inl Cf)), (cn, .inl (cI, 5, .inl Nf))] sz (wX ad adK adV tV tS ([(cs, .inr (3, [.ref ck, .ref cn, .int len, va_re ad vb, .int pos])), (ck, .inl (cC, 80, .inl Cf)), (cn, .inl (cI, 5, .inl Nf))]) sz))) (qI D (TY cI cC cS) (fun (r : Int32) (u : Bool) => fX4_hasWordAt Cf len start wi = u ∧ r = bi u) (fun u => [(cs, .inr (3, [.ref ck, .ref cn, .int len, va_re ad vb, .int pos])), (ck, .inl (cC, 80, .inl Cf)), (cn, .inl (cI, 5, .inl Nf))]) (va_A [(cs, .inr (3, [.ref ck, .ref cn, .int len, va_re ad vb, .int pos])), (ck, .inl (cC, 80, .inl Cf)), (cn, .inl (cI, 5, .inl Nf))] sz)) 0 0 (va_A [(cs, .inr (3, [.ref ck, .ref cn, .int len, va_re ad vb, .int pos])), (ck, .inl (cC, 80, .inl Cf)), (cn, .inl (cI, 5, .inl Nf))] sz) := by
  refine mkM (y := yX4_hasWordAt) (wsl := wsX4_hasWordAt) (fun Fr => qI D (TY cI cC cS) (fun (r : Int32) (u : Bool) => fX4_hasWordAt Cf len start wi = u ∧ r = bi u) (fun u => [(cs, .inr (3, [.ref ck, .ref cn, .int len, va_re ad vb, .int pos])), (ck, .inl (cC, 80, .inl Cf)), (cn, .inl (cI, 5, .inl Nf))]) Fr) (cc := cX4_hasWordAt) (maxL := 4) (ret := (some .boolean)) (own := RX4) (lv := [(0, .ref cs), (1, .int start), (2, .ref (adK wi))]) (by decide) rfl rfl (Nat.le_of_ble_eq_true rfl) rfl ?_
  intro p e s m below meth c Fr ls hx hb hr hts hown hml hlk hin hP hK hD hS hA hAe hsz hX hl
  have hE : wE ad adK adV tV tS Fr s s.heap := by rw [hAe]; exact hX.1
  refine lv_iconst (v := 0) hx hb dX4_hasWordAt_0 (by decide) ?_
  refine lv_istore_n (lv' := [(3, .int 0), (0, .ref cs), (1, .int start), (2, .ref (adK wi))]) hx hb dX4_hasWordAt_1 rfl hl (by decide) rfl (fun ls hl => ?_)
  have K_2 : ∀ (fu : Nat) (x3 : Int32) (H : Heap) (locs : List Loc) (ls : Array Slot), va_P D vwCl [(cs, .inr (3, [.ref ck, .ref cn, .int len, va_re ad vb, .int pos])), (ck, .inl (cC, 80, .inl Cf)), (cn, .inl (cI, 5, .inl Nf))] H → va_D Fr [(cs, .inr (3, [.ref ck, .ref cn, .int len, va_re ad vb, .int pos])), (ck, .inl (cC, 80, .inl Cf)), (cn, .inl (cI, 5, .inl Nf))] → va_S Fr s.heap H locs → lv_has ls 4 [(0, .ref cs), (1, .int start), (2, .ref (adK wi)), (3, .int x3)] → (¬ x3 < 0) → ((Int32.ofNat (vLen.getD wi 0)).toInt - x3.toInt).toNat < fu → fX4_hasWordAt Cf len start wi = fX4_hasWordAt_2 Cf len start wi fu x3 → W p l e (headSpec wsX4_hasWordAt ({ frames := 4, cells := 0, slots := 0, locals := 85 } : Jvm.Room)).room s m ([.ref cs, .int start, .ref (adK wi)] : List Value).toArray below meth c H locs 0 0 (MQ below (qI D (TY cI cC cS) (fun (r : Int32) (u : Bool) => fX4_hasWordAt Cf len start wi = u ∧ r = bi u) (fun u => [(cs, .inr (3, [.ref ck, .ref cn, .int len, va_re ad vb, .int pos])), (ck, .inl (cC, 80, .inl Cf)), (cn, .inl (cI, 5, .inl Nf))]) Fr) ([.ref cs, .int start, .ref (adK wi)] : List Value).toArray s 0 0 Fr) (F0 m 2 ls []) := by
    intro fu
    induction fu with
    | zero => intros; exact absurd (by assumption) (Nat.not_lt_zero _)
    | succ fu ih_2 =>
      intro x3 H locs ls hP hD hS hl hi3 hm_2 E_2
      refine lv_iload_n hx hb dX4_hasWordAt_2 rfl (lv_at hl 3 rfl) ?_
      refine lv_aload_n hx hb dX4_hasWordAt_3 rfl (lv_at hl 2 rfl) ?_
      refine callJi (As := []) (rest := [.int x3]) (mJ0_length_8abf5 l D cI cC cS _ ad adK adV tV tS wi hwi) ⟨hx, hb, hml, hown, hts⟩ (cwV 0 hts gX4_hasWordAt_J0_length_8abf5 rfl rfl rfl (by decide +kernel) ⟨Nat.le_of_ble_eq_true rfl, Nat.le_of_ble_eq_true rfl⟩) wX_blind (wX_warm hE hX.2 hS (va_free (wc := []) hD hS hA [] rfl)) (vk_recv hE.1 hwi hS) hP hK hD hS hA hl rfl rfl (Nat.le_of_ble_eq_true rfl) dX4_hasWordAt_4 ⟨Nat.zero_le _, Nat.zero_le _⟩ (fun u_ H locs hk1 hP hS => ?_)
      subst hk1
      refine W.eq (g2 := F0 m 7 ls [.int (Int32.ofNat (vLen.getD wi 0)), .int x3]) rfl ?_
      refine lv_icmp_ge (tgt := 33) hx hb dX4_hasWordAt_7 (by decide) (fun c7 => ?_) (fun c7 => ?_)
      · refine lv_iconst (v := 1) hx hb dX4_hasWordAt_33 (by decide) ?_
        exact endZ hx hb hr hlk hP hK hD hS dX4_hasWordAt_34 rfl true rfl ⟨(E_2).trans ((fX4_hasWordAt_2_s Cf len start wi fu x3).trans ((if_pos c7).trans rfl)), rfl⟩
      · refine lv_aload_n hx hb dX4_hasWordAt_10 rfl (lv_at hl 0 rfl) ?_
        refine lv_iload_n hx hb dX4_hasWordAt_11 rfl (lv_at hl 1 rfl) ?_
        refine lv_iload_n hx hb dX4_hasWordAt_12 rfl (lv_at hl 3 rfl) ?_
        refine lv_iadd hx hb dX4_hasWordAt_13 ?_
        refine callVi (As := [.int (start + x3)]) (rest := []) (mX4_signAt l D cI cC cS _ cs ck cn ad Cf Nf len vb pos (start + x3) hC) ⟨hx, hb, hml, hown, hts⟩ (cwV 1 hts gX4_hasWordAt_X4_signAt rfl rfl rfl (by decide +kernel) ⟨Nat.le_of_ble_eq_true rfl, Nat.le_of_ble_eq_true rfl⟩) wN_blind (fun _ _ hW => wN_warm hW hX.2) hP hK hD hS hA hl [0, 1, 2] rfl rfl 0 3 rfl rfl rfl rfl rfl (Nat.le_of_ble_eq_true rfl) dX4_hasWordAt_14 ⟨Nat.zero_le _, Nat.zero_le _⟩ (fun _ => rfl) (fun u_ H locs hk3 hP hD hS => ?_)
        obtain ⟨r_3, e_r_3⟩ : ∃ z, z = u_ := ⟨_, rfl⟩
        subst e_r_3
        have hP : va_P D vwCl [(cs, .inr (3, [.ref ck, .ref cn, .int len, va_re ad vb, .int pos])), (ck, .inl (cC, 80, .inl Cf)), (cn, .inl (cI, 5, .inl Nf))] H := hP
        have hD : va_D Fr [(cs, .inr (3, [.ref ck, .ref cn, .int len, va_re ad vb, .int pos])), (ck, .inl (cC, 80, .inl Cf)), (cn, .inl (cI, 5, .inl Nf))] := hD
        refine W.eq (g2 := F0 m 17 ls [.int r_3]) rfl ?_
        refine lv_aload_n hx hb dX4_hasWordAt_17 rfl (lv_at hl 2 rfl) ?_
        refine lv_iload_n hx hb dX4_hasWordAt_18 rfl (lv_at hl 3 rfl) ?_
        refine callJi (As := [.int x3]) (rest := [.int r_3]) (mJ0_charAt_5068e l D cI cC cS _ ad adK adV tV tS wi hwi x3 hi3 (Int32.not_le.mp c7)) ⟨hx, hb, hml, hown, hts⟩ (cwV 1 hts gX4_hasWordAt_J0_charAt_5068e rfl rfl rfl (by decide +kernel) ⟨Nat.le_of_ble_eq_true rfl, Nat.le_of_ble_eq_true rfl⟩) wX_blind (wX_warm hE hX.2 hS (va_free (wc := []) hD hS hA [] rfl)) (vk_recv hE.1 hwi hS) hP hK hD hS hA hl rfl rfl (Nat.le_of_ble_eq_true rfl) dX4_hasWordAt_19 ⟨Nat.zero_le _, Nat.zero_le _⟩ (fun u_ H locs hk4 hP hS => ?_)
        subst hk4
        refine W.eq (g2 := F0 m 22 ls [.int (fchr wi x3), .int r_3]) rfl ?_
        refine lv_icmp_eq (tgt := 27) hx hb dX4_hasWordAt_22 (by decide) (fun c22 => ?_) (fun c22 => ?_)
        · refine lv_iinc (v := x3 + 1) (lv' := [(3, .int (x3 + 1)), (0, .ref cs), (1, .int start), (2, .ref (adK wi))]) hx hb dX4_hasWordAt_27 hl (k := 3) rfl (by rfl) (by decide) rfl (fun ls hl => ?_)
          refine lv_goto (tgt := 2) hx hb dX4_hasWordAt_30 (by decide) ?_
          exact ih_2 (x3 + 1) _ _ ls hP hD hS (lv_sub hl [1, 2, 3, 0] rfl) (inc_nn hi3 c7 (vLen_lt hwi)) (Nat.lt_of_lt_of_le (lp_dec c7) (Nat.le_of_lt_succ hm_2)) ((E_2).trans ((fX4_hasWordAt_2_s Cf len start wi fu x3).trans ((if_neg c7).trans ((bd1_e hk3).trans ((if_pos c22).trans rfl)))))
        · refine lv_iconst (v := 0) hx hb dX4_hasWordAt_25 (by decide) ?_
          exact endZ hx hb hr hlk hP hK hD hS dX4_hasWordAt_26 rfl false rfl ⟨(E_2).trans ((fX4_hasWordAt_2_s Cf len start wi fu x3).trans ((if_neg c7).trans ((bd1_e hk3).trans ((if_neg c22).trans rfl)))), rfl⟩
  exact K_2 (((Int32.ofNat (vLen.getD wi 0)).toInt - (0 : Int32).toInt).toNat + 1) 0 _ _ ls hP hD hS (lv_sub hl [1, 2, 3, 0] rfl) (by decide) (Nat.lt_succ_self _) rfl

/-- the loop of X4_verbAt at 2 -/
def fX4_verbAt_2 (Cf : Nat → Int32) (len : Int32) (start : Int32) : Nat → Int32 → Option Nat
  | 0, _ => default
  | fu + 1, x2 =>
    (if Int32.ofNat 7 ≤ x2 then none else bd1 (fX4_hasWordAt Cf len start x2.toNatClampNeg) (fun (r_2 : Bool) => (if r_2 = true then some x2.toNatClampNeg else fX4_verbAt_2 Cf len start fu (x2 + 1))))
theorem fX4_verbAt_2_s (Cf : Nat → Int32) (len : Int32) (start : Int32) (fu : Nat) (x2 : Int32) : fX4_verbAt_2 Cf len start (fu + 1) x2 =
    (if Int32.ofNat 7 ≤ x2 then none else bd1 (fX4_hasWordAt Cf len start x2.toNatClampNeg) (fun (r_2 : Bool) => (if r_2 = true then some x2.toNatClampNeg else fX4_verbAt_2 Cf len start fu (x2 + 1)))) := rfl

/-- the value of X4_verbAt, path by path -/
def fX4_verbAt (Cf : Nat → Int32) (len : Int32) (start : Int32) : Option Nat :=
  fX4_verbAt_2 Cf len start (((Int32.ofNat 7).toInt - (0 : Int32).toInt).toNat + 1) 0

set_option maxHeartbeats 4000000 in
set_option maxRecDepth 100000 in
/-- X4_verbAt -/
theorem mX4_verbAt (l : Launch) (D : va_G) (cI cC cS : ClassId) (sz : Nat) (cs : Nat) (ck : Nat) (cn : Nat) (ad : Nat → Nat) (Cf : Nat → Int32) (Nf : Nat → Int32) (len : Int32) (vb : Option Nat) (pos : Int32) (adK : Nat → Nat) (adV : Nat → Nat) (tV : Nat) (tS : Nat) (start : Int32) (hC : ∀ k, narrow .char (.int (Cf k)) = .int (Cf k)) : Met l yX4_verbAt wsX4_verbAt ({ frames := 5, cells := 0, slots := 0, locals := 108 } : Jvm.Room) (va_Pc [.ref cs, .int start] (wPre D (TY cI cC cS) [(cs, .inr (3, [.ref ck, .ref cn, .int len, va_re ad vb, .int pos])), (ck, .inl (cC, 80, .inl Cf)), (cn, .inl (cI, 5, .inl Nf))] sz (wX ad adK adV tV tS ([(cs, .inr (3, [.ref ck, .ref cn, .int len, va_re ad vb, .int pos])), (ck, .inl (cC, 80, .inl Cf)), (cn, .inl (cI, 5, .inl Nf))]) sz))) (qQ D (TY cI cC cS) (fun (r : Option Nat) (u : Option Nat) => fX4_verbAt Cf len start = u ∧ r = Option.map ad u) (fun u => [(cs, .inr (3, [.ref ck, .ref cn, .int len, va_re ad vb, .int pos])), (ck, .inl (cC, 80, .inl Cf)), (cn, .inl (cI, 5, .inl Nf))]) (va_A [(cs, .inr (3, [.ref ck, .ref cn, .int len, va_re ad vb, .int pos])), (ck, .inl (cC, 80, .inl Cf)), (cn, .inl (cI, 5, .inl Nf))] sz)) 0 0 (va_A [(cs, .inr (3, [.ref ck, .ref cn, .int len, va_re ad vb, .int pos])), (ck, .inl (cC, 80, .inl Cf)), (cn, .inl (cI, 5, .inl Nf))] sz) := by
  refine mkM (y := yX4_verbAt) (wsl := wsX4_verbAt) (fun Fr => qQ D (TY cI cC cS) (fun (r : Option Nat) (u : Option Nat) => fX4_verbAt Cf len start = u ∧ r = Option.map ad u) (fun u => [(cs, .inr (3, [.ref ck, .ref cn, .int len, va_re ad vb, .int pos])), (ck, .inl (cC, 80, .inl Cf)), (cn, .inl (cI, 5, .inl Nf))]) Fr) (cc := cX4_verbAt) (maxL := 4) (ret := (some (.object "FieldQuotas$Verb"))) (own := RX4) (lv := [(0, .ref cs), (1, .int start)]) (by decide) rfl rfl (Nat.le_of_ble_eq_true rfl) rfl ?_
  intro p e s m below meth c Fr ls hx hb hr hts hown hml hlk hin hP hK hD hS hA hAe hsz hX hl
  have w_1 := hts (.fieldLink RX4 59 "FieldQuotas$Script" "VERBS" "[LFieldQuotas$Verb;") (List.mem_of_getElem? (i := 1) rfl)
  have hE : wE ad adK adV tV tS Fr s s.heap := by rw [hAe]; exact hX.1
  refine lv_iconst (v := 0) hx hb dX4_verbAt_0 (by decide) ?_
  refine lv_istore_n (lv' := [(2, .int 0), (0, .ref cs), (1, .int start)]) hx hb dX4_verbAt_1 rfl hl (by decide) rfl (fun ls hl => ?_)
  have K_2 : ∀ (fu : Nat) (x2 : Int32) (H : Heap) (locs : List Loc) (ls : Array Slot), va_P D vwCl [(cs, .inr (3, [.ref ck, .ref cn, .int len, va_re ad vb, .int pos])), (ck, .inl (cC, 80, .inl Cf)), (cn, .inl (cI, 5, .inl Nf))] H → va_D Fr [(cs, .inr (3, [.ref ck, .ref cn, .int len, va_re ad vb, .int pos])), (ck, .inl (cC, 80, .inl Cf)), (cn, .inl (cI, 5, .inl Nf))] → va_S Fr s.heap H locs → lv_has ls 4 [(0, .ref cs), (1, .int start), (2, .int x2)] → (¬ x2 < 0) → ((Int32.ofNat 7).toInt - x2.toInt).toNat < fu → fX4_verbAt Cf len start = fX4_verbAt_2 Cf len start fu x2 → W p l e (headSpec wsX4_verbAt ({ frames := 5, cells := 0, slots := 0, locals := 108 } : Jvm.Room)).room s m ([.ref cs, .int start] : List Value).toArray below meth c H locs 0 0 (MQ below (qQ D (TY cI cC cS) (fun (r : Option Nat) (u : Option Nat) => fX4_verbAt Cf len start = u ∧ r = Option.map ad u) (fun u => [(cs, .inr (3, [.ref ck, .ref cn, .int len, va_re ad vb, .int pos])), (ck, .inl (cC, 80, .inl Cf)), (cn, .inl (cI, 5, .inl Nf))]) Fr) ([.ref cs, .int start] : List Value).toArray s 0 0 Fr) (F0 m 2 ls []) := by
    intro fu
    induction fu with
    | zero => intros; exact absurd (by assumption) (Nat.not_lt_zero _)
    | succ fu ih_2 =>
      intro x2 H locs ls hP hD hS hl hi2 hm_2 E_2
      refine lv_iload_n hx hb dX4_verbAt_2 rfl (lv_at hl 2 rfl) ?_
      refine va_gets hx hb hE.2.2.2.1 hS hown w_1 (fun _ h9 => h9) dX4_verbAt_3 ?_
      refine va_tlen hx hb hE.2.2.2.2.1 hS rfl dX4_verbAt_6 ?_
      refine lv_icmp_ge (tgt := 40) hx hb dX4_verbAt_7 (by decide) (fun c7 => ?_) (fun c7 => ?_)
      · refine lv_null hx hb dX4_verbAt_40 ?_
        exact endQ hx hb hr hlk hP hK hD hS dX4_verbAt_41 none rfl ⟨(E_2).trans ((fX4_verbAt_2_s Cf len start fu x2).trans ((if_pos c7).trans rfl)), rfl⟩ rfl
      · refine va_gets hx hb hE.2.2.2.1 hS hown w_1 (fun _ h9 => h9) dX4_verbAt_10 ?_
        refine lv_iload_n hx hb dX4_verbAt_13 rfl (lv_at hl 2 rfl) ?_
        refine vb_tq hx hb hE.2.2.2.2.1 hS (vp_in_of2 hi2 c7 (by decide)) rfl dX4_verbAt_14 ?_
        refine W.eq (g2 := F0 m 15 ls [.ref (ad x2.toNatClampNeg)]) rfl ?_
        refine lv_astore_n (lv' := [(3, .ref (ad x2.toNatClampNeg)), (0, .ref cs), (1, .int start), (2, .int x2)]) hx hb dX4_verbAt_15 rfl hl (by decide) rfl (fun ls hl => ?_)
        refine lv_aload_n hx hb dX4_verbAt_16 rfl (lv_at hl 0 rfl) ?_
        refine lv_ifnull hx hb dX4_verbAt_17 ?_
        refine lv_aload_n hx hb dX4_verbAt_20 rfl (lv_at hl 1 rfl) ?_
        refine lv_iload_n hx hb dX4_verbAt_21 rfl (lv_at hl 2 rfl) ?_
        refine lv_aload_n hx hb dX4_verbAt_22 rfl (lv_at hl 0 rfl) ?_
        refine va_getXN (i := x2.toNatClampNeg) hx hb hE.2.2.2.2.2.1 (n7_of hi2 c7) hS hown (va_Nw.use rfl hX.2.2.2.2.2.1) (fun _ h9 => h9) dX4_verbAt_23 ?_
        refine W.eq (g2 := F0 m 26 ls [.ref (adK x2.toNatClampNeg), .int start, .ref cs]) rfl ?_
        refine callVi (As := [.int start, .ref (adK x2.toNatClampNeg)]) (rest := []) (mX4_hasWordAt l D cI cC cS _ cs ck cn ad Cf Nf len vb pos adK adV tV tS start x2.toNatClampNeg hC (n7_of hi2 c7)) ⟨hx, hb, hml, hown, hts⟩ (cwV 2 hts gX4_verbAt_X4_hasWordAt rfl rfl rfl (by decide +kernel) ⟨Nat.le_of_ble_eq_true rfl, Nat.le_of_ble_eq_true rfl⟩) wX_blind (wX_warm hE hX.2 hS (va_free hD hS hA [0, 1, 2] rfl)) hP hK hD hS hA hl [0, 1, 2] rfl rfl 0 3 rfl rfl rfl rfl rfl (Nat.le_of_ble_eq_true rfl) dX4_verbAt_26 ⟨Nat.zero_le _, Nat.zero_le _⟩ (fun _ => rfl) (fun u_ H locs hk2 hP hD hS => ?_)
        obtain ⟨r_2, e_r_2⟩ : ∃ z, z = u_ := ⟨_, rfl⟩
        subst e_r_2
        have hP : va_P D vwCl [(cs, .inr (3, [.ref ck, .ref cn, .int len, va_re ad vb, .int pos])), (ck, .inl (cC, 80, .inl Cf)), (cn, .inl (cI, 5, .inl Nf))] H := hP
        have hD : va_D Fr [(cs, .inr (3, [.ref ck, .ref cn, .int len, va_re ad vb, .int pos])), (ck, .inl (cC, 80, .inl Cf)), (cn, .inl (cI, 5, .inl Nf))] := hD
        refine W.eq (g2 := F0 m 29 ls [.int (bi r_2)]) rfl ?_
        refine lv_if_eq (tgt := 34) hx hb dX4_verbAt_29 (by decide) (fun c29 => ?_) (fun c29 => ?_)
        · refine lv_iinc (v := x2 + 1) (lv' := [(2, .int (x2 + 1)), (3, .ref (ad x2.toNatClampNeg)), (0, .ref cs), (1, .int start)]) hx hb dX4_verbAt_34 hl (k := 3) rfl (by rfl) (by decide) rfl (fun ls hl => ?_)
          refine lv_goto (tgt := 2) hx hb dX4_verbAt_37 (by decide) ?_
          exact ih_2 (x2 + 1) _ _ ls hP hD hS (lv_sub hl [2, 3, 0] rfl) (inc_nn (n := 7) hi2 c7 (by decide)) (Nat.lt_of_lt_of_le (lp_dec c7) (Nat.le_of_lt_succ hm_2)) ((E_2).trans ((fX4_verbAt_2_s Cf len start fu x2).trans ((if_neg c7).trans ((bd1_e hk2).trans ((if_neg (bi_z c29)).trans rfl)))))
        · refine lv_aload_n hx hb dX4_verbAt_32 rfl (lv_at hl 0 rfl) ?_
          exact endQ hx hb hr hlk hP hK hD hS dX4_verbAt_33 (some x2.toNatClampNeg) rfl ⟨(E_2).trans ((fX4_verbAt_2_s Cf len start fu x2).trans ((if_neg c7).trans ((bd1_e hk2).trans ((if_pos (bi_o c29)).trans rfl)))), rfl⟩ rfl
  exact K_2 (((Int32.ofNat 7).toInt - (0 : Int32).toInt).toNat + 1) 0 _ _ ls hP hD hS (lv_sub hl [1, 2, 0] rfl) (by decide) (Nat.lt_succ_self _) rfl

theorem vb_lt_2 {Cf : Nat → Int32} {len start : Int32} {k : Nat} : ∀ (fu : Nat) (x2 : Int32), ¬ x2 < 0 → fX4_verbAt_2 Cf len start fu x2 = some k → k < 7 := by
  intro fu
  induction fu with
  | zero =>
    intro x2 _ h
    cases (show (none : Option Nat) = some k from h)
  | succ fu ih =>
    intro x2 hx h
    rw [fX4_verbAt_2_s] at h
    by_cases c : Int32.ofNat 7 ≤ x2
    · rw [if_pos c] at h
      cases h
    · rw [if_neg c] at h
      unfold bd1 at h
      by_cases r : fX4_hasWordAt Cf len start x2.toNatClampNeg = true
      · have h : some x2.toNatClampNeg = some k := (if_pos r).symm.trans h
        cases h
        exact n7_of hx c
      · have h : fX4_verbAt_2 Cf len start fu (x2 + 1) = some k := (if_neg r).symm.trans h
        exact ih (x2 + 1) (inc_nn (n := 7) hx c (by decide)) h
theorem vb_lt {Cf : Nat → Int32} {len start : Int32} {k : Nat} (h : fX4_verbAt Cf len start = some k) : k < 7 := vb_lt_2 _ 0 (by decide) h
