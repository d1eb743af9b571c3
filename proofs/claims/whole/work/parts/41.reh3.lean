/-- the value of X4_verb, path by path -/
def fX4_verb (vb : Option Nat) : Option Nat :=
  vb

set_option maxHeartbeats 4000000 in
set_option maxRecDepth 100000 in
/-- X4_verb -/
theorem mX4_verb (l : Launch) (D : va_G) (cI cC cS : ClassId) (sz : Nat) (cs : Nat) (ck : Nat) (cn : Nat) (ad : Nat → Nat) (Cf : Nat → Int32) (Nf : Nat → Int32) (len : Int32) (vb : Option Nat) (pos : Int32)  : Met l yX4_verb wsX4_verb ({ frames := 0, cells := 0, slots := 0, locals := 0 } : Jvm.Room) (va_Pc [.ref cs] (wPre D (TY cI cC cS) [(cs, .inr (3, [.ref ck, .ref cn, .int len, va_re ad vb, .int pos])), (ck, .inl (cC, 80, .inl Cf)), (cn, .inl (cI, 5, .inl Nf))] sz wN)) (qQ D (TY cI cC cS) (fun (r : Option Nat) (u : Option Nat) => fX4_verb vb = u ∧ r = Option.map ad u) (fun u => [(cs, .inr (3, [.ref ck, .ref cn, .int len, va_re ad vb, .int pos])), (ck, .inl (cC, 80, .inl Cf)), (cn, .inl (cI, 5, .inl Nf))]) (va_A [(cs, .inr (3, [.ref ck, .ref cn, .int len, va_re ad vb, .int pos])), (ck, .inl (cC, 80, .inl Cf)), (cn, .inl (cI, 5, .inl Nf))] sz)) 0 0 (va_A [(cs, .inr (3, [.ref ck, .ref cn, .int len, va_re ad vb, .int pos])), (ck, .inl (cC, 80, .inl Cf)), (cn, .inl (cI, 5, .inl Nf))] sz) := by
  refine mkM (y := yX4_verb) (wsl := wsX4_verb) (fun Fr => qQ D (TY cI cC cS) (fun (r : Option Nat) (u : Option Nat) => fX4_verb vb = u ∧ r = Option.map ad u) (fun u => [(cs, .inr (3, [.ref ck, .ref cn, .int len, va_re ad vb, .int pos])), (ck, .inl (cC, 80, .inl Cf)), (cn, .inl (cI, 5, .inl Nf))]) Fr) (cc := cX4_verb) (maxL := 1) (ret := (some (.object "FieldQuotas$Verb"))) (own := RX4) (lv := [(0, .ref cs)]) (by decide) rfl rfl (Nat.le_of_ble_eq_true rfl) rfl ?_
  intro p e s m below meth c Fr ls hx hb hr hts hown hml hlk hin hP hK hD hS hA hAe hsz hX hl
  have w_1 := hts (.fieldLink RX4 27 "FieldQuotas$Script" "verb" "LFieldQuotas$Verb;") (List.mem_of_getElem? (i := 1) rfl)
  have w_2 := sub_r (big := wsX4_verb) (u_ws RX4 TX4 5) [2, 3, 4, 5, 6] rfl
  refine lv_aload_n hx hb dX4_verb_0 rfl (lv_at hl 0 rfl) ?_
  refine va_get (D := D) (ci := 3) (C := RX4) (T := TX4) (N := 5) hx hb hts w_2 hown hK hP 0 rfl rfl 3 (by decide) w_1 (fun _ h9 => h9) rfl dX4_verb_1 ?_
  exact endQ hx hb hr hlk hP hK hD hS dX4_verb_4 vb rfl ⟨rfl, rfl⟩ rfl

theorem sX4_verb (l : Launch) (D : va_G) (cI cC cS : ClassId) (sz : Nat) (cs : Nat) (ck : Nat) (cn : Nat) (ad : Nat → Nat) (Cf : Nat → Int32) (Nf : Nat → Int32) (len : Int32) (vb : Option Nat) (pos : Int32)  : Met l yX4_verb wsX4_verb ({ frames := 0, cells := 0, slots := 0, locals := 0 } : Jvm.Room) (va_Pc [.ref cs] (wPre D (TY cI cC cS) (([scW cI cC ad cs ck cn Cf Nf len vb pos] : List va_W).flatten) sz wN)) (qQ D (TY cI cC cS) (fun (r : Option Nat) (u : Option Nat) => fX4_verb vb = u ∧ r = Option.map ad u) (fun u => ([scW cI cC ad cs ck cn Cf Nf len vb pos] : List va_W).flatten) (va_A (([scW cI cC ad cs ck cn Cf Nf len vb pos] : List va_W).flatten) sz)) 0 0 (va_A (([scW cI cC ad cs ck cn Cf Nf len vb pos] : List va_W).flatten) sz) := mX4_verb l D cI cC cS sz cs ck cn ad Cf Nf len vb pos 

theorem rc_44 {Cf Nf : Nat → Int32} {len start : Int32} {k : Nat} : ∀ (fu : Nat) (x : Int32) (QN : Nat → Int32) (pp : Int32) (u : Bool × (Nat → Int32) × Option Nat × Int32), fX4_readCommand_44 Cf Nf len start k fu x QN pp = u → u.1 = true → u.2.2.1 = some k := by
  intro fu
  induction fu with
  | zero =>
    intro x QN pp u h h1
    subst h
    cases (show false = true from h1)
  | succ fu ih =>
    intro x QN pp u h h1
    rw [fX4_readCommand_44_s] at h
    simp only [bd2, bd3] at h
    split at h
    · subst h
      rfl
    · split at h
      · subst h
        rfl
      · split at h
        · split at h
          · exact ih _ _ _ u h h1
          · subst h
            cases h1
        · subst h
          cases h1
theorem rc_ok {Cf Nf : Nat → Int32} {len start : Int32} {u : Bool × (Nat → Int32) × Option Nat × Int32} (h : fX4_readCommand Cf Nf len start = u) (h1 : u.1 = true) : ∃ k, u.2.2.1 = some k ∧ k < 7 := by
  unfold fX4_readCommand bd1 at h
  cases hv : fX4_verbAt Cf len start with
  | none =>
    rw [hv] at h
    have h : (false, Nf, none, start) = u := h
    subst h
    cases h1
  | some k =>
    rw [hv] at h
    exact ⟨k, rc_44 _ _ _ _ u h h1, vb_lt hv⟩
/-- the loop of X3_run at 25 -/
def fX3_run_25 (Cf : Nat → Int32) (Nf : Nat → Int32) (len : Int32) (vb : Option Nat) (pos : Int32) (RA : Nat → Int32) (RI : Nat → Int32) (RC : Nat → Int32) (na : Int32) (ni : Int32) (dy : Int32) (vl : Int32) (db : Int32) (SA : Nat → Int32) (SI : Nat → Int32) (SC : Nat → Int32) (na2 : Int32) (ni2 : Int32) (dy2 : Int32) (vl2 : Int32) (db2 : Int32) : Nat → Int32 → Int32 → Int32 → (Nat → Int32) → Option Nat → Int32 → (Nat → Int32) → (Nat → Int32) → (Nat → Int32) → Int32 → Int32 → Int32 → Int32 → Int32 → Int32 × Int32 × Int32 × (Nat → Int32) × Option Nat × Int32 × (Nat → Int32) × (Nat → Int32) × (Nat → Int32) × Int32 × Int32 × Int32 × Int32 × Int32
  | 0, _, _, _, _, _, _, _, _, _, _, _, _, _, _ => default
  | fu + 1, x2, km, kp, QN, qv, qp, QA, QI, QC, qa, qi, qd, ql, qb =>
    (if (80 : Int32) ≤ x2 then (km, kp, 0, QN, qv, qp, QA, QI, QC, qa, qi, qd, ql, qb) else bd1 (fX4_length len) (fun (r_13 : Int32) => (if r_13 ≤ kp then (km, kp, 0, QN, qv, qp, QA, QI, QC, qa, qi, qd, ql, qb) else bd4 (fX4_readCommand Cf QN len kp) (fun (r_15 : Bool) (u_16 : Nat → Int32) (u_17 : Option Nat) (u_18 : Int32) => (if r_15 = true then bd1 (fX4_verb u_17) (fun (r_20 : Option Nat) => bdo r_20 default (fun (vk_21 : Nat) => bd1 (fX3_answerOf u_16 QA QI QC qa qi qd ql qb vk_21) (fun (u_29 : Int32 × (Nat → Int32) × (Nat → Int32) × (Nat → Int32) × Int32 × Int32) => (if (0 : Int32) ≤ u_29.1 then bd1 (fX4_position u_18) (fun (r_31 : Int32) => fX3_run_25 Cf Nf len vb pos RA RI RC na ni dy vl db SA SI SC na2 ni2 dy2 vl2 db2 fu (x2 + 1) (km + 1) r_31 u_16 u_17 u_18 u_29.2.1 u_29.2.2.1 u_29.2.2.2.1 u_29.2.2.2.2.1 qi u_29.2.2.2.2.2 ql qb) else (if u_29.1 = (-1) then (km, kp, 2, u_16, u_17, u_18, u_29.2.1, u_29.2.2.1, u_29.2.2.2.1, u_29.2.2.2.2.1, qi, u_29.2.2.2.2.2, ql, qb) else (km, kp, 3, u_16, u_17, u_18, u_29.2.1, u_29.2.2.1, u_29.2.2.2.1, u_29.2.2.2.2.1, qi, u_29.2.2.2.2.2, ql, qb)))))) else (km, kp, 1, u_16, u_17, u_18, QA, QI, QC, qa, qi, qd, ql, qb))))))
theorem fX3_run_25_s (Cf : Nat → Int32) (Nf : Nat → Int32) (len : Int32) (vb : Option Nat) (pos : Int32) (RA : Nat → Int32) (RI : Nat → Int32) (RC : Nat → Int32) (na : Int32) (ni : Int32) (dy : Int32) (vl : Int32) (db : Int32) (SA : Nat → Int32) (SI : Nat → Int32) (SC : Nat → Int32) (na2 : Int32) (ni2 : Int32) (dy2 : Int32) (vl2 : Int32) (db2 : Int32) (fu : Nat) (x2 : Int32) (km : Int32) (kp : Int32) (QN : Nat → Int32) (qv : Option Nat) (qp : Int32) (QA : Nat → Int32) (QI : Nat → Int32) (QC : Nat → Int32) (qa : Int32) (qi : Int32) (qd : Int32) (ql : Int32) (qb : Int32) : fX3_run_25 Cf Nf len vb pos RA RI RC na ni dy vl db SA SI SC na2 ni2 dy2 vl2 db2 (fu + 1) x2 km kp QN qv qp QA QI QC qa qi qd ql qb =
    (if (80 : Int32) ≤ x2 then (km, kp, 0, QN, qv, qp, QA, QI, QC, qa, qi, qd, ql, qb) else bd1 (fX4_length len) (fun (r_13 : Int32) => (if r_13 ≤ kp then (km, kp, 0, QN, qv, qp, QA, QI, QC, qa, qi, qd, ql, qb) else bd4 (fX4_readCommand Cf QN len kp) (fun (r_15 : Bool) (u_16 : Nat → Int32) (u_17 : Option Nat) (u_18 : Int32) => (if r_15 = true then bd1 (fX4_verb u_17) (fun (r_20 : Option Nat) => bdo r_20 default (fun (vk_21 : Nat) => bd1 (fX3_answerOf u_16 QA QI QC qa qi qd ql qb vk_21) (fun (u_29 : Int32 × (Nat → Int32) × (Nat → Int32) × (Nat → Int32) × Int32 × Int32) => (if (0 : Int32) ≤ u_29.1 then bd1 (fX4_position u_18) (fun (r_31 : Int32) => fX3_run_25 Cf Nf len vb pos RA RI RC na ni dy vl db SA SI SC na2 ni2 dy2 vl2 db2 fu (x2 + 1) (km + 1) r_31 u_16 u_17 u_18 u_29.2.1 u_29.2.2.1 u_29.2.2.2.1 u_29.2.2.2.2.1 qi u_29.2.2.2.2.2 ql qb) else (if u_29.1 = (-1) then (km, kp, 2, u_16, u_17, u_18, u_29.2.1, u_29.2.2.1, u_29.2.2.2.1, u_29.2.2.2.2.1, qi, u_29.2.2.2.2.2, ql, qb) else (km, kp, 3, u_16, u_17, u_18, u_29.2.1, u_29.2.2.1, u_29.2.2.2.1, u_29.2.2.2.2.1, qi, u_29.2.2.2.2.2, ql, qb)))))) else (km, kp, 1, u_16, u_17, u_18, QA, QI, QC, qa, qi, qd, ql, qb)))))) := rfl

/-- the value of X3_run, path by path -/
def fX3_run (Cf : Nat → Int32) (Nf : Nat → Int32) (len : Int32) (vb : Option Nat) (pos : Int32) (RA : Nat → Int32) (RI : Nat → Int32) (RC : Nat → Int32) (na : Int32) (ni : Int32) (dy : Int32) (vl : Int32) (db : Int32) (SA : Nat → Int32) (SI : Nat → Int32) (SC : Nat → Int32) (na2 : Int32) (ni2 : Int32) (dy2 : Int32) (vl2 : Int32) (db2 : Int32) : Int32 × Int32 × Int32 × (Nat → Int32) × Option Nat × Int32 × (Nat → Int32) × (Nat → Int32) × (Nat → Int32) × Int32 × Int32 × Int32 × Int32 × Int32 :=
  bd1 (fX5_copyFrom SA SI SC RA RI RC na ni dy vl db) (fun (u_11 : (Nat → Int32) × (Nat → Int32) × (Nat → Int32) × Int32 × Int32 × Int32 × Int32 × Int32) => fX3_run_25 Cf Nf len vb pos RA RI RC na ni dy vl db SA SI SC na2 ni2 dy2 vl2 db2 (((80 : Int32).toInt - (0 : Int32).toInt).toNat + 1) 0 0 0 Nf vb pos u_11.1 u_11.2.1 u_11.2.2.1 u_11.2.2.2.1 u_11.2.2.2.2.1 u_11.2.2.2.2.2.1 u_11.2.2.2.2.2.2.1 u_11.2.2.2.2.2.2.2)

set_option maxHeartbeats 4000000 in
set_option maxRecDepth 100000 in
/-- X3_run -/
theorem mX3_run (l : Launch) (D : va_G) (cI cC cS : ClassId) (sz : Nat) (rh : Nat) (cs : Nat) (tr : Nat) (cm : Int32) (ps : Int32) (rs : Int32) (ck : Nat) (cn : Nat) (ad : Nat → Nat) (Cf : Nat → Int32) (Nf : Nat → Int32) (len : Int32) (vb : Option Nat) (pos : Int32) (adK : Nat → Nat) (adV : Nat → Nat) (tV : Nat) (tS : Nat) (u1 : Nat) (u2 : Nat) (u3 : Nat) (b1 : Nat) (b2 : Nat) (b3 : Nat) (SA : Nat → Int32) (SI : Nat → Int32) (SC : Nat → Int32) (na2 : Int32) (ni2 : Int32) (dy2 : Int32) (vl2 : Int32) (db2 : Int32) (h : Nat) (t1 : Nat) (t2 : Nat) (t3 : Nat) (a1 : Nat) (a2 : Nat) (a3 : Nat) (RA : Nat → Int32) (RI : Nat → Int32) (RC : Nat → Int32) (na : Int32) (ni : Int32) (dy : Int32) (vl : Int32) (db : Int32) (hC : ∀ k, narrow .char (.int (Cf k)) = .int (Cf k)) : Met l yX3_run wsX3_run ({ frames := 7, cells := 0, slots := 0, locals := 153 } : Jvm.Room) (va_Pc [.ref rh, .ref h] (wPre D (TY cI cC cS) ([rhW rh cs tr cm ps rs, scW cI cC ad cs ck cn Cf Nf len vb pos, svW tr u1 u2 u3 b1 b2 b3 cI SA SI SC na2 ni2 dy2 vl2 db2, svW h t1 t2 t3 a1 a2 a3 cI RA RI RC na ni dy vl db] : List va_W).flatten sz (wX ad adK adV tV tS (([rhW rh cs tr cm ps rs, scW cI cC ad cs ck cn Cf Nf len vb pos, svW tr u1 u2 u3 b1 b2 b3 cI SA SI SC na2 ni2 dy2 vl2 db2, svW h t1 t2 t3 a1 a2 a3 cI RA RI RC na ni dy vl db] : List va_W).flatten) sz))) (qV D (TY cI cC cS) (fun (u : Int32 × Int32 × Int32 × (Nat → Int32) × Option Nat × Int32 × (Nat → Int32) × (Nat → Int32) × (Nat → Int32) × Int32 × Int32 × Int32 × Int32 × Int32) => fX3_run Cf Nf len vb pos RA RI RC na ni dy vl db SA SI SC na2 ni2 dy2 vl2 db2 = u) (fun u => ([rhW rh cs tr u.1 u.2.1 u.2.2.1, scW cI cC ad cs ck cn Cf u.2.2.2.1 len u.2.2.2.2.1 u.2.2.2.2.2.1, svW tr u1 u2 u3 b1 b2 b3 cI u.2.2.2.2.2.2.1 u.2.2.2.2.2.2.2.1 u.2.2.2.2.2.2.2.2.1 u.2.2.2.2.2.2.2.2.2.1 u.2.2.2.2.2.2.2.2.2.2.1 u.2.2.2.2.2.2.2.2.2.2.2.1 u.2.2.2.2.2.2.2.2.2.2.2.2.1 u.2.2.2.2.2.2.2.2.2.2.2.2.2, svW h t1 t2 t3 a1 a2 a3 cI RA RI RC na ni dy vl db] : List va_W).flatten) (va_A ([rhW rh cs tr cm ps rs, scW cI cC ad cs ck cn Cf Nf len vb pos, svW tr u1 u2 u3 b1 b2 b3 cI SA SI SC na2 ni2 dy2 vl2 db2, svW h t1 t2 t3 a1 a2 a3 cI RA RI RC na ni dy vl db] : List va_W).flatten sz)) 0 0 (va_A ([rhW rh cs tr cm ps rs, scW cI cC ad cs ck cn Cf Nf len vb pos, svW tr u1 u2 u3 b1 b2 b3 cI SA SI SC na2 ni2 dy2 vl2 db2, svW h t1 t2 t3 a1 a2 a3 cI RA RI RC na ni dy vl db] : List va_W).flatten sz) := by
  refine mkM (y := yX3_run) (wsl := wsX3_run) (fun Fr => qV D (TY cI cC cS) (fun (u : Int32 × Int32 × Int32 × (Nat → Int32) × Option Nat × Int32 × (Nat → Int32) × (Nat → Int32) × (Nat → Int32) × Int32 × Int32 × Int32 × Int32 × Int32) => fX3_run Cf Nf len vb pos RA RI RC na ni dy vl db SA SI SC na2 ni2 dy2 vl2 db2 = u) (fun u => ([rhW rh cs tr u.1 u.2.1 u.2.2.1, scW cI cC ad cs ck cn Cf u.2.2.2.1 len u.2.2.2.2.1 u.2.2.2.2.2.1, svW tr u1 u2 u3 b1 b2 b3 cI u.2.2.2.2.2.2.1 u.2.2.2.2.2.2.2.1 u.2.2.2.2.2.2.2.2.1 u.2.2.2.2.2.2.2.2.2.1 u.2.2.2.2.2.2.2.2.2.2.1 u.2.2.2.2.2.2.2.2.2.2.2.1 u.2.2.2.2.2.2.2.2.2.2.2.2.1 u.2.2.2.2.2.2.2.2.2.2.2.2.2, svW h t1 t2 t3 a1 a2 a3 cI RA RI RC na ni dy vl db] : List va_W).flatten) Fr) (cc := cX3_run) (maxL := 4) (ret := none) (own := RX3) (lv := [(0, .ref rh), (1, .ref h)]) (by decide) rfl rfl (Nat.le_of_ble_eq_true rfl) rfl ?_
  intro p e s m below meth c Fr ls hx hb hr hts hown hml hlk hin hP hK hD hS hA hAe hsz hX hl
  have w_1 := hts (.fieldLink RX3 18 "FieldQuotas$Rehearsal" "trial" "LFieldQuotas$Survey;") (List.mem_of_getElem? (i := 1) rfl)
  have w_2 := sub_r (big := wsX3_run) (u_ws RX3 TX3 5) [229, 230, 231, 232, 233] rfl
  have w_3 := hts (.fieldLink RX3 26 "FieldQuotas$Rehearsal" "commands" "I") (List.mem_of_getElem? (i := 2) rfl)
  have w_4 := hts (.fieldLink RX3 30 "FieldQuotas$Rehearsal" "position" "I") (List.mem_of_getElem? (i := 3) rfl)
  have w_5 := hts (.fieldLink RX3 33 "FieldQuotas$Rehearsal" "reason" "I") (List.mem_of_getElem? (i := 4) rfl)
  have w_6 := hts (.fieldLink RX3 9 "FieldQuotas$Rehearsal" "script" "LFieldQuotas$Script;") (List.mem_of_getElem? (i := 5) rfl)
  have hE : wE ad adK adV tV tS Fr s s.heap := by rw [hAe]; exact hX.1
  refine lv_aload_n hx hb dX3_run_0 rfl (lv_at hl 0 rfl) ?_
  refine va_get (D := D) (ci := 2) (C := RX3) (T := TX3) (N := 5) hx hb hts w_2 hown hK hP 0 rfl rfl 1 (by decide) w_1 (fun _ h9 => h9) rfl dX3_run_1 ?_
  refine lv_aload_n hx hb dX3_run_4 rfl (lv_at hl 1 rfl) ?_
  refine scallVv (As := [.ref h]) (rest := []) (sX5_copyFrom l D cI cC cS _ tr u1 u2 u3 b1 b2 b3 SA SI SC na2 ni2 dy2 vl2 db2 h t1 t2 t3 a1 a2 a3 RA RI RC na ni dy vl db) ⟨hx, hb, hml, hown, hts⟩ (cwV 1 hts gX3_run_X5_copyFrom rfl rfl rfl (by decide +kernel) ⟨Nat.le_of_ble_eq_true rfl, Nat.le_of_ble_eq_true rfl⟩) wN_blind (fun _ _ hW => wN_warm hW hX.2) hP hK hD hS hA hl [2, 3] rfl rfl 0 4 rfl rfl rfl rfl rfl (Nat.le_of_ble_eq_true rfl) dX3_run_5 ⟨Nat.zero_le _, Nat.zero_le _⟩ (fun _ => rfl) (fun u_ H locs hk10 hP hD hS => ?_)
  obtain ⟨u_11, e_u_11⟩ : ∃ z, z = u_ := ⟨_, rfl⟩
  subst e_u_11
  have hP : va_P D vwCl ([rhW rh cs tr cm ps rs, scW cI cC ad cs ck cn Cf Nf len vb pos, svW tr u1 u2 u3 b1 b2 b3 cI u_11.1 u_11.2.1 u_11.2.2.1 u_11.2.2.2.1 u_11.2.2.2.2.1 u_11.2.2.2.2.2.1 u_11.2.2.2.2.2.2.1 u_11.2.2.2.2.2.2.2, svW h t1 t2 t3 a1 a2 a3 cI RA RI RC na ni dy vl db] : List va_W).flatten H := hP
  have hD : va_D Fr ([rhW rh cs tr cm ps rs, scW cI cC ad cs ck cn Cf Nf len vb pos, svW tr u1 u2 u3 b1 b2 b3 cI u_11.1 u_11.2.1 u_11.2.2.1 u_11.2.2.2.1 u_11.2.2.2.2.1 u_11.2.2.2.2.2.1 u_11.2.2.2.2.2.2.1 u_11.2.2.2.2.2.2.2, svW h t1 t2 t3 a1 a2 a3 cI RA RI RC na ni dy vl db] : List va_W).flatten := hD
  refine W.eq (g2 := F0 m 8 ls []) rfl ?_
  refine lv_aload_n hx hb dX3_run_8 rfl (lv_at hl 0 rfl) ?_
  refine lv_iconst (v := 0) hx hb dX3_run_9 (by decide) ?_
  refine va_put (D := D) (ci := 2) (v := .int 0) (ty := .int) (C := RX3) (T := TX3) (N := 5) hx hb hts w_2 tyX3 tyX3_ok nmX3 hown hK hP hD hS 0 rfl rfl 2 (by decide) w_3 (fun _ h9 => h9) rfl (by decide +kernel) rfl rfl (Nat.le_of_ble_eq_true rfl) dX3_run_10 (fun H locs hP hD hS => ?_)
  have hP : va_P D vwCl ([rhW rh cs tr 0 ps rs, scW cI cC ad cs ck cn Cf Nf len vb pos, svW tr u1 u2 u3 b1 b2 b3 cI u_11.1 u_11.2.1 u_11.2.2.1 u_11.2.2.2.1 u_11.2.2.2.2.1 u_11.2.2.2.2.2.1 u_11.2.2.2.2.2.2.1 u_11.2.2.2.2.2.2.2, svW h t1 t2 t3 a1 a2 a3 cI RA RI RC na ni dy vl db] : List va_W).flatten H := hP
  have hD : va_D Fr ([rhW rh cs tr 0 ps rs, scW cI cC ad cs ck cn Cf Nf len vb pos, svW tr u1 u2 u3 b1 b2 b3 cI u_11.1 u_11.2.1 u_11.2.2.1 u_11.2.2.2.1 u_11.2.2.2.2.1 u_11.2.2.2.2.2.1 u_11.2.2.2.2.2.2.1 u_11.2.2.2.2.2.2.2, svW h t1 t2 t3 a1 a2 a3 cI RA RI RC na ni dy vl db] : List va_W).flatten := hD
  refine lv_aload_n hx hb dX3_run_13 rfl (lv_at hl 0 rfl) ?_
  refine lv_iconst (v := 0) hx hb dX3_run_14 (by decide) ?_
  refine va_put (D := D) (ci := 2) (v := .int 0) (ty := .int) (C := RX3) (T := TX3) (N := 5) hx hb hts w_2 tyX3 tyX3_ok nmX3 hown hK hP hD hS 0 rfl rfl 3 (by decide) w_4 (fun _ h9 => h9) rfl (by decide +kernel) rfl rfl (Nat.le_of_ble_eq_true rfl) dX3_run_15 (fun H locs hP hD hS => ?_)
  have hP : va_P D vwCl ([rhW rh cs tr 0 0 rs, scW cI cC ad cs ck cn Cf Nf len vb pos, svW tr u1 u2 u3 b1 b2 b3 cI u_11.1 u_11.2.1 u_11.2.2.1 u_11.2.2.2.1 u_11.2.2.2.2.1 u_11.2.2.2.2.2.1 u_11.2.2.2.2.2.2.1 u_11.2.2.2.2.2.2.2, svW h t1 t2 t3 a1 a2 a3 cI RA RI RC na ni dy vl db] : List va_W).flatten H := hP
  have hD : va_D Fr ([rhW rh cs tr 0 0 rs, scW cI cC ad cs ck cn Cf Nf len vb pos, svW tr u1 u2 u3 b1 b2 b3 cI u_11.1 u_11.2.1 u_11.2.2.1 u_11.2.2.2.1 u_11.2.2.2.2.1 u_11.2.2.2.2.2.1 u_11.2.2.2.2.2.2.1 u_11.2.2.2.2.2.2.2, svW h t1 t2 t3 a1 a2 a3 cI RA RI RC na ni dy vl db] : List va_W).flatten := hD
  refine lv_aload_n hx hb dX3_run_18 rfl (lv_at hl 0 rfl) ?_
  refine lv_iconst (v := 0) hx hb dX3_run_19 (by decide) ?_
  refine va_put (D := D) (ci := 2) (v := .int 0) (ty := .int) (C := RX3) (T := TX3) (N := 5) hx hb hts w_2 tyX3 tyX3_ok nmX3 hown hK hP hD hS 0 rfl rfl 4 (by decide) w_5 (fun _ h9 => h9) rfl (by decide +kernel) rfl rfl (Nat.le_of_ble_eq_true rfl) dX3_run_20 (fun H locs hP hD hS => ?_)
  have hP : va_P D vwCl ([rhW rh cs tr 0 0 0, scW cI cC ad cs ck cn Cf Nf len vb pos, svW tr u1 u2 u3 b1 b2 b3 cI u_11.1 u_11.2.1 u_11.2.2.1 u_11.2.2.2.1 u_11.2.2.2.2.1 u_11.2.2.2.2.2.1 u_11.2.2.2.2.2.2.1 u_11.2.2.2.2.2.2.2, svW h t1 t2 t3 a1 a2 a3 cI RA RI RC na ni dy vl db] : List va_W).flatten H := hP
  have hD : va_D Fr ([rhW rh cs tr 0 0 0, scW cI cC ad cs ck cn Cf Nf len vb pos, svW tr u1 u2 u3 b1 b2 b3 cI u_11.1 u_11.2.1 u_11.2.2.1 u_11.2.2.2.1 u_11.2.2.2.2.1 u_11.2.2.2.2.2.1 u_11.2.2.2.2.2.2.1 u_11.2.2.2.2.2.2.2, svW h t1 t2 t3 a1 a2 a3 cI RA RI RC na ni dy vl db] : List va_W).flatten := hD
  refine lv_iconst (v := 0) hx hb dX3_run_23 (by decide) ?_
  refine lv_istore_n (lv' := [(2, .int 0), (0, .ref rh), (1, .ref h)]) hx hb dX3_run_24 rfl hl (by decide) rfl (fun ls hl => ?_)
  have K_25 : ∀ (fu : Nat) (x2 : Int32) (km : Int32) (kp : Int32) (QN : Nat → Int32) (qv : Option Nat) (qp : Int32) (QA : Nat → Int32) (QI : Nat → Int32) (QC : Nat → Int32) (qa : Int32) (qi : Int32) (qd : Int32) (ql : Int32) (qb : Int32) (H : Heap) (locs : List Loc) (ls : Array Slot), va_P D vwCl ([rhW rh cs tr km kp 0, scW cI cC ad cs ck cn Cf QN len qv qp, svW tr u1 u2 u3 b1 b2 b3 cI QA QI QC qa qi qd ql qb, svW h t1 t2 t3 a1 a2 a3 cI RA RI RC na ni dy vl db] : List va_W).flatten H → va_D Fr ([rhW rh cs tr km kp 0, scW cI cC ad cs ck cn Cf QN len qv qp, svW tr u1 u2 u3 b1 b2 b3 cI QA QI QC qa qi qd ql qb, svW h t1 t2 t3 a1 a2 a3 cI RA RI RC na ni dy vl db] : List va_W).flatten → va_S Fr s.heap H locs → lv_has ls 4 [(0, .ref rh), (1, .ref h), (2, .int x2)] → ((80 : Int32).toInt - x2.toInt).toNat < fu → fX3_run Cf Nf len vb pos RA RI RC na ni dy vl db SA SI SC na2 ni2 dy2 vl2 db2 = fX3_run_25 Cf Nf len vb pos RA RI RC na ni dy vl db SA SI SC na2 ni2 dy2 vl2 db2 fu x2 km kp QN qv qp QA QI QC qa qi qd ql qb → W p l e (headSpec wsX3_run ({ frames := 7, cells := 0, slots := 0, locals := 153 } : Jvm.Room)).room s m ([.ref rh, .ref h] : List Value).toArray below meth c H locs 0 0 (MQ below (qV D (TY cI cC cS) (fun (u : Int32 × Int32 × Int32 × (Nat → Int32) × Option Nat × Int32 × (Nat → Int32) × (Nat → Int32) × (Nat → Int32) × Int32 × Int32 × Int32 × Int32 × Int32) => fX3_run Cf Nf len vb pos RA RI RC na ni dy vl db SA SI SC na2 ni2 dy2 vl2 db2 = u) (fun u => ([rhW rh cs tr u.1 u.2.1 u.2.2.1, scW cI cC ad cs ck cn Cf u.2.2.2.1 len u.2.2.2.2.1 u.2.2.2.2.2.1, svW tr u1 u2 u3 b1 b2 b3 cI u.2.2.2.2.2.2.1 u.2.2.2.2.2.2.2.1 u.2.2.2.2.2.2.2.2.1 u.2.2.2.2.2.2.2.2.2.1 u.2.2.2.2.2.2.2.2.2.2.1 u.2.2.2.2.2.2.2.2.2.2.2.1 u.2.2.2.2.2.2.2.2.2.2.2.2.1 u.2.2.2.2.2.2.2.2.2.2.2.2.2, svW h t1 t2 t3 a1 a2 a3 cI RA RI RC na ni dy vl db] : List va_W).flatten) Fr) ([.ref rh, .ref h] : List Value).toArray s 0 0 Fr) (F0 m 25 ls []) := by
    intro fu
    induction fu with
    | zero => intros; exact absurd (by assumption) (Nat.not_lt_zero _)
    | succ fu ih_25 =>
      intro x2 km kp QN qv qp QA QI QC qa qi qd ql qb H locs ls hP hD hS hl  hm_25 E_25
      refine lv_iload_n hx hb dX3_run_25 rfl (lv_at hl 2 rfl) ?_
      refine lv_bipush (v := 80) hx hb dX3_run_26 (by decide) ?_
      refine lv_icmp_ge (tgt := 123) hx hb dX3_run_28 (by decide) (fun c28 => ?_) (fun c28 => ?_)
      · exact endV hx hb hr hlk hP hK hD hS dX3_run_123 (km, kp, 0, QN, qv, qp, QA, QI, QC, qa, qi, qd, ql, qb) rfl ((E_25).trans ((fX3_run_25_s Cf Nf len vb pos RA RI RC na ni dy vl db SA SI SC na2 ni2 dy2 vl2 db2 fu x2 km kp QN qv qp QA QI QC qa qi qd ql qb).trans ((if_pos c28).trans rfl)))
      · refine lv_aload_n hx hb dX3_run_31 rfl (lv_at hl 0 rfl) ?_
        refine va_get (D := D) (ci := 2) (C := RX3) (T := TX3) (N := 5) hx hb hts w_2 hown hK hP 0 rfl rfl 3 (by decide) w_4 (fun _ h9 => h9) rfl dX3_run_32 ?_
        refine lv_aload_n hx hb dX3_run_35 rfl (lv_at hl 0 rfl) ?_
        refine va_get (D := D) (ci := 2) (C := RX3) (T := TX3) (N := 5) hx hb hts w_2 hown hK hP 0 rfl rfl 0 (by decide) w_6 (fun _ h9 => h9) rfl dX3_run_36 ?_
        refine scallVi (As := []) (rest := [.int kp]) (sX4_length l D cI cC cS _ cs ck cn ad Cf QN len qv qp) ⟨hx, hb, hml, hown, hts⟩ (cwV 0 hts gX3_run_X4_length rfl rfl rfl (by decide +kernel) ⟨Nat.le_of_ble_eq_true rfl, Nat.le_of_ble_eq_true rfl⟩) wN_blind (fun _ _ hW => wN_warm hW hX.2) hP hK hD hS hA hl [1] rfl rfl 0 3 rfl rfl rfl rfl rfl (Nat.le_of_ble_eq_true rfl) dX3_run_39 ⟨Nat.zero_le _, Nat.zero_le _⟩ (fun _ => rfl) (fun u_ H locs hk13 hP hD hS => ?_)
        obtain ⟨r_13, e_r_13⟩ : ∃ z, z = u_ := ⟨_, rfl⟩
        subst e_r_13
        have hP : va_P D vwCl ([rhW rh cs tr km kp 0, scW cI cC ad cs ck cn Cf QN len qv qp, svW tr u1 u2 u3 b1 b2 b3 cI QA QI QC qa qi qd ql qb, svW h t1 t2 t3 a1 a2 a3 cI RA RI RC na ni dy vl db] : List va_W).flatten H := hP
        have hD : va_D Fr ([rhW rh cs tr km kp 0, scW cI cC ad cs ck cn Cf QN len qv qp, svW tr u1 u2 u3 b1 b2 b3 cI QA QI QC qa qi qd ql qb, svW h t1 t2 t3 a1 a2 a3 cI RA RI RC na ni dy vl db] : List va_W).flatten := hD
        refine W.eq (g2 := F0 m 42 ls [.int r_13, .int kp]) rfl ?_
        refine lv_icmp_ge (tgt := 123) hx hb dX3_run_42 (by decide) (fun c42 => ?_) (fun c42 => ?_)
        · exact endV hx hb hr hlk hP hK hD hS dX3_run_123 (km, kp, 0, QN, qv, qp, QA, QI, QC, qa, qi, qd, ql, qb) rfl ((E_25).trans ((fX3_run_25_s Cf Nf len vb pos RA RI RC na ni dy vl db SA SI SC na2 ni2 dy2 vl2 db2 fu x2 km kp QN qv qp QA QI QC qa qi qd ql qb).trans ((if_neg c28).trans ((bd1_e hk13).trans ((if_pos c42).trans rfl)))))
        · refine lv_aload_n hx hb dX3_run_45 rfl (lv_at hl 0 rfl) ?_
          refine va_get (D := D) (ci := 2) (C := RX3) (T := TX3) (N := 5) hx hb hts w_2 hown hK hP 0 rfl rfl 0 (by decide) w_6 (fun _ h9 => h9) rfl dX3_run_46 ?_
          refine lv_aload_n hx hb dX3_run_49 rfl (lv_at hl 0 rfl) ?_
          refine va_get (D := D) (ci := 2) (C := RX3) (T := TX3) (N := 5) hx hb hts w_2 hown hK hP 0 rfl rfl 3 (by decide) w_4 (fun _ h9 => h9) rfl dX3_run_50 ?_
          refine scallVi (As := [.int kp]) (rest := []) (sX4_readCommand l D cI cC cS _ cs ck cn ad Cf QN len qv qp adK adV tV tS kp hC) ⟨hx, hb, hml, hown, hts⟩ (cwV 1 hts gX3_run_X4_readCommand rfl rfl rfl (by decide +kernel) ⟨Nat.le_of_ble_eq_true rfl, Nat.le_of_ble_eq_true rfl⟩) wX_blind (wX_warm hE hX.2 hS (sg_free hD hS hA [1] rfl)) hP hK hD hS hA hl [1] rfl rfl 0 3 rfl rfl rfl rfl rfl (Nat.le_of_ble_eq_true rfl) dX3_run_53 ⟨Nat.zero_le _, Nat.zero_le _⟩ (fun _ => rfl) (fun u_ H locs hk18 hP hD hS => ?_)
          obtain ⟨r_15, u_16, u_17, u_18⟩ := u_
          have hP : va_P D vwCl ([rhW rh cs tr km kp 0, scW cI cC ad cs ck cn Cf u_16 len u_17 u_18, svW tr u1 u2 u3 b1 b2 b3 cI QA QI QC qa qi qd ql qb, svW h t1 t2 t3 a1 a2 a3 cI RA RI RC na ni dy vl db] : List va_W).flatten H := hP
          have hD : va_D Fr ([rhW rh cs tr km kp 0, scW cI cC ad cs ck cn Cf u_16 len u_17 u_18, svW tr u1 u2 u3 b1 b2 b3 cI QA QI QC qa qi qd ql qb, svW h t1 t2 t3 a1 a2 a3 cI RA RI RC na ni dy vl db] : List va_W).flatten := hD
          refine W.eq (g2 := F0 m 56 ls [.int (bi r_15)]) rfl ?_
          refine lv_if_ne (tgt := 65) hx hb dX3_run_56 (by decide) (fun c56 => ?_) (fun c56 => ?_)
          · refine lv_aload_n hx hb dX3_run_65 rfl (lv_at hl 0 rfl) ?_
            refine lv_aload_n hx hb dX3_run_66 rfl (lv_at hl 0 rfl) ?_
            refine va_get (D := D) (ci := 2) (C := RX3) (T := TX3) (N := 5) hx hb hts w_2 hown hK hP 0 rfl rfl 0 (by decide) w_6 (fun _ h9 => h9) rfl dX3_run_67 ?_
            refine scallVq (As := []) (rest := [.ref rh]) (sX4_verb l D cI cC cS _ cs ck cn ad Cf u_16 len u_17 u_18) ⟨hx, hb, hml, hown, hts⟩ (cwV 0 hts gX3_run_X4_verb rfl rfl rfl (by decide +kernel) ⟨Nat.le_of_ble_eq_true rfl, Nat.le_of_ble_eq_true rfl⟩) wN_blind (fun _ _ hW => wN_warm hW hX.2) hP hK hD hS hA hl [1] rfl rfl 0 3 rfl rfl rfl rfl rfl (Nat.le_of_ble_eq_true rfl) dX3_run_70 ⟨Nat.zero_le _, Nat.zero_le _⟩ (fun _ => rfl) (fun u_ H locs hk20 hP hD hS => ?_)
            have hP : va_P D vwCl ([rhW rh cs tr km kp 0, scW cI cC ad cs ck cn Cf u_16 len u_17 u_18, svW tr u1 u2 u3 b1 b2 b3 cI QA QI QC qa qi qd ql qb, svW h t1 t2 t3 a1 a2 a3 cI RA RI RC na ni dy vl db] : List va_W).flatten H := hP
            have hD : va_D Fr ([rhW rh cs tr km kp 0, scW cI cC ad cs ck cn Cf u_16 len u_17 u_18, svW tr u1 u2 u3 b1 b2 b3 cI QA QI QC qa qi qd ql qb, svW h t1 t2 t3 a1 a2 a3 cI RA RI RC na ni dy vl db] : List va_W).flatten := hD
            cases u_ with
            | none =>
              exact absurd hk20 (fun q => by obtain ⟨k, e, _⟩ := rc_ok hk18 (bi_o c56); nomatch q.symm.trans e)
            | some vk_21 =>
              have h7 : vk_21 < 7 := by obtain ⟨k, e, h⟩ := rc_ok hk18 (bi_o c56); cases (hk20.symm.trans e); exact h
              refine W.eq (g2 := F0 m 73 ls [.ref (ad vk_21), .ref rh]) rfl ?_
              refine scallVi (As := [.ref (ad vk_21)]) (rest := []) (mX3_answerOf l D cI cC cS _ rh cs tr km kp 0 ck cn ad Cf u_16 len u_17 u_18 adK adV tV tS u1 u2 u3 b1 b2 b3 QA QI QC qa qi qd ql qb vk_21 h7) ⟨hx, hb, hml, hown, hts⟩ (cwV 1 hts gX3_run_X3_answerOf rfl rfl rfl (by decide +kernel) ⟨Nat.le_of_ble_eq_true rfl, Nat.le_of_ble_eq_true rfl⟩) wX_blind (wX_warm hE hX.2 hS (sg_free hD hS hA [0, 1, 2] rfl)) hP hK hD hS hA hl [0, 1, 2] rfl rfl 0 2 rfl rfl rfl rfl rfl (Nat.le_of_ble_eq_true rfl) dX3_run_73 ⟨Nat.zero_le _, Nat.zero_le _⟩ (fun _ => rfl) (fun u_ H locs hk28 hP hD hS => ?_)
              obtain ⟨u_29, e_u_29⟩ : ∃ z, z = u_ := ⟨_, rfl⟩
              subst e_u_29
              have hP : va_P D vwCl ([rhW rh cs tr km kp 0, scW cI cC ad cs ck cn Cf u_16 len u_17 u_18, svW tr u1 u2 u3 b1 b2 b3 cI u_29.2.1 u_29.2.2.1 u_29.2.2.2.1 u_29.2.2.2.2.1 qi u_29.2.2.2.2.2 ql qb, svW h t1 t2 t3 a1 a2 a3 cI RA RI RC na ni dy vl db] : List va_W).flatten H := hP
              have hD : va_D Fr ([rhW rh cs tr km kp 0, scW cI cC ad cs ck cn Cf u_16 len u_17 u_18, svW tr u1 u2 u3 b1 b2 b3 cI u_29.2.1 u_29.2.2.1 u_29.2.2.2.1 u_29.2.2.2.2.1 qi u_29.2.2.2.2.2 ql qb, svW h t1 t2 t3 a1 a2 a3 cI RA RI RC na ni dy vl db] : List va_W).flatten := hD
              refine W.eq (g2 := F0 m 76 ls [.int u_29.1]) rfl ?_
              refine lv_istore_n (lv' := [(3, .int u_29.1), (0, .ref rh), (1, .ref h), (2, .int x2)]) hx hb dX3_run_76 rfl hl (by decide) rfl (fun ls hl => ?_)
              refine lv_iload_n hx hb dX3_run_77 rfl (lv_at hl 0 rfl) ?_
              refine lv_if_ge (tgt := 96) hx hb dX3_run_78 (by decide) (fun c78 => ?_) (fun c78 => ?_)
              · refine lv_aload_n hx hb dX3_run_96 rfl (lv_at hl 1 rfl) ?_
                refine lv_dup hx hb dX3_run_97 rfl ?_
                refine va_get (D := D) (ci := 2) (C := RX3) (T := TX3) (N := 5) hx hb hts w_2 hown hK hP 0 rfl rfl 2 (by decide) w_3 (fun _ h9 => h9) rfl dX3_run_98 ?_
                refine lv_iconst (v := 1) hx hb dX3_run_101 (by decide) ?_
                refine lv_iadd hx hb dX3_run_102 ?_
                refine va_put (D := D) (ci := 2) (v := .int (km + 1)) (ty := .int) (C := RX3) (T := TX3) (N := 5) hx hb hts w_2 tyX3 tyX3_ok nmX3 hown hK hP hD hS 0 rfl rfl 2 (by decide) w_3 (fun _ h9 => h9) rfl (by decide +kernel) rfl rfl (Nat.le_of_ble_eq_true rfl) dX3_run_103 (fun H locs hP hD hS => ?_)
                have hP : va_P D vwCl ([rhW rh cs tr (km + 1) kp 0, scW cI cC ad cs ck cn Cf u_16 len u_17 u_18, svW tr u1 u2 u3 b1 b2 b3 cI u_29.2.1 u_29.2.2.1 u_29.2.2.2.1 u_29.2.2.2.2.1 qi u_29.2.2.2.2.2 ql qb, svW h t1 t2 t3 a1 a2 a3 cI RA RI RC na ni dy vl db] : List va_W).flatten H := hP
                have hD : va_D Fr ([rhW rh cs tr (km + 1) kp 0, scW cI cC ad cs ck cn Cf u_16 len u_17 u_18, svW tr u1 u2 u3 b1 b2 b3 cI u_29.2.1 u_29.2.2.1 u_29.2.2.2.1 u_29.2.2.2.2.1 qi u_29.2.2.2.2.2 ql qb, svW h t1 t2 t3 a1 a2 a3 cI RA RI RC na ni dy vl db] : List va_W).flatten := hD
                refine lv_aload_n hx hb dX3_run_106 rfl (lv_at hl 1 rfl) ?_
                refine lv_aload_n hx hb dX3_run_107 rfl (lv_at hl 1 rfl) ?_
                refine va_get (D := D) (ci := 2) (C := RX3) (T := TX3) (N := 5) hx hb hts w_2 hown hK hP 0 rfl rfl 0 (by decide) w_6 (fun _ h9 => h9) rfl dX3_run_108 ?_
                refine scallVi (As := []) (rest := [.ref rh]) (sX4_position l D cI cC cS _ cs ck cn ad Cf u_16 len u_17 u_18) ⟨hx, hb, hml, hown, hts⟩ (cwV 0 hts gX3_run_X4_position rfl rfl rfl (by decide +kernel) ⟨Nat.le_of_ble_eq_true rfl, Nat.le_of_ble_eq_true rfl⟩) wN_blind (fun _ _ hW => wN_warm hW hX.2) hP hK hD hS hA hl [1] rfl rfl 0 3 rfl rfl rfl rfl rfl (Nat.le_of_ble_eq_true rfl) dX3_run_111 ⟨Nat.zero_le _, Nat.zero_le _⟩ (fun _ => rfl) (fun u_ H locs hk31 hP hD hS => ?_)
                obtain ⟨r_31, e_r_31⟩ : ∃ z, z = u_ := ⟨_, rfl⟩
                subst e_r_31
                have hP : va_P D vwCl ([rhW rh cs tr (km + 1) kp 0, scW cI cC ad cs ck cn Cf u_16 len u_17 u_18, svW tr u1 u2 u3 b1 b2 b3 cI u_29.2.1 u_29.2.2.1 u_29.2.2.2.1 u_29.2.2.2.2.1 qi u_29.2.2.2.2.2 ql qb, svW h t1 t2 t3 a1 a2 a3 cI RA RI RC na ni dy vl db] : List va_W).flatten H := hP
                have hD : va_D Fr ([rhW rh cs tr (km + 1) kp 0, scW cI cC ad cs ck cn Cf u_16 len u_17 u_18, svW tr u1 u2 u3 b1 b2 b3 cI u_29.2.1 u_29.2.2.1 u_29.2.2.2.1 u_29.2.2.2.2.1 qi u_29.2.2.2.2.2 ql qb, svW h t1 t2 t3 a1 a2 a3 cI RA RI RC na ni dy vl db] : List va_W).flatten := hD
                refine W.eq (g2 := F0 m 114 ls [.int r_31, .ref rh]) rfl ?_
                refine va_put (D := D) (ci := 2) (v := .int r_31) (ty := .int) (C := RX3) (T := TX3) (N := 5) hx hb hts w_2 tyX3 tyX3_ok nmX3 hown hK hP hD hS 0 rfl rfl 3 (by decide) w_4 (fun _ h9 => h9) rfl (by decide +kernel) rfl rfl (Nat.le_of_ble_eq_true rfl) dX3_run_114 (fun H locs hP hD hS => ?_)
                have hP : va_P D vwCl ([rhW rh cs tr (km + 1) r_31 0, scW cI cC ad cs ck cn Cf u_16 len u_17 u_18, svW tr u1 u2 u3 b1 b2 b3 cI u_29.2.1 u_29.2.2.1 u_29.2.2.2.1 u_29.2.2.2.2.1 qi u_29.2.2.2.2.2 ql qb, svW h t1 t2 t3 a1 a2 a3 cI RA RI RC na ni dy vl db] : List va_W).flatten H := hP
                have hD : va_D Fr ([rhW rh cs tr (km + 1) r_31 0, scW cI cC ad cs ck cn Cf u_16 len u_17 u_18, svW tr u1 u2 u3 b1 b2 b3 cI u_29.2.1 u_29.2.2.1 u_29.2.2.2.1 u_29.2.2.2.2.1 qi u_29.2.2.2.2.2 ql qb, svW h t1 t2 t3 a1 a2 a3 cI RA RI RC na ni dy vl db] : List va_W).flatten := hD
                refine lv_iinc (v := x2 + 1) (lv' := [(2, .int (x2 + 1)), (3, .int u_29.1), (0, .ref rh), (1, .ref h)]) hx hb dX3_run_117 hl (k := 3) rfl (by rfl) (by decide) rfl (fun ls hl => ?_)
                refine lv_goto (tgt := 25) hx hb dX3_run_120 (by decide) ?_
                exact ih_25 (x2 + 1) (km + 1) r_31 u_16 u_17 u_18 u_29.2.1 u_29.2.2.1 u_29.2.2.2.1 u_29.2.2.2.2.1 qi u_29.2.2.2.2.2 ql qb _ _ ls hP hD hS (lv_sub hl [2, 3, 0] rfl) (Nat.lt_of_lt_of_le (lp_dec c28) (Nat.le_of_lt_succ hm_25)) ((E_25).trans ((fX3_run_25_s Cf Nf len vb pos RA RI RC na ni dy vl db SA SI SC na2 ni2 dy2 vl2 db2 fu x2 km kp QN qv qp QA QI QC qa qi qd ql qb).trans ((if_neg c28).trans ((bd1_e hk13).trans ((if_neg c42).trans ((bd4_e hk18).trans ((if_pos (bi_o c56)).trans ((bd1_e hk20).trans ((bdo_s _ _ _).trans ((bd1_e hk28).trans ((if_pos c78).trans ((bd1_e hk31).trans rfl))))))))))))
              · refine lv_aload_n hx hb dX3_run_81 rfl (lv_at hl 1 rfl) ?_
                refine lv_iload_n hx hb dX3_run_82 rfl (lv_at hl 0 rfl) ?_
                refine lv_iconst (v := (-1)) hx hb dX3_run_83 (by decide) ?_
                refine lv_icmp_ne (tgt := 91) hx hb dX3_run_84 (by decide) (fun c84 => ?_) (fun c84 => ?_)
                · refine lv_iconst (v := 3) hx hb dX3_run_91 (by decide) ?_
                  refine va_put (D := D) (ci := 2) (v := .int 3) (ty := .int) (C := RX3) (T := TX3) (N := 5) hx hb hts w_2 tyX3 tyX3_ok nmX3 hown hK hP hD hS 0 rfl rfl 4 (by decide) w_5 (fun _ h9 => h9) rfl (by decide +kernel) rfl rfl (Nat.le_of_ble_eq_true rfl) dX3_run_92 (fun H locs hP hD hS => ?_)
                  have hP : va_P D vwCl ([rhW rh cs tr km kp 3, scW cI cC ad cs ck cn Cf u_16 len u_17 u_18, svW tr u1 u2 u3 b1 b2 b3 cI u_29.2.1 u_29.2.2.1 u_29.2.2.2.1 u_29.2.2.2.2.1 qi u_29.2.2.2.2.2 ql qb, svW h t1 t2 t3 a1 a2 a3 cI RA RI RC na ni dy vl db] : List va_W).flatten H := hP
                  have hD : va_D Fr ([rhW rh cs tr km kp 3, scW cI cC ad cs ck cn Cf u_16 len u_17 u_18, svW tr u1 u2 u3 b1 b2 b3 cI u_29.2.1 u_29.2.2.1 u_29.2.2.2.1 u_29.2.2.2.2.1 qi u_29.2.2.2.2.2 ql qb, svW h t1 t2 t3 a1 a2 a3 cI RA RI RC na ni dy vl db] : List va_W).flatten := hD
                  exact endV hx hb hr hlk hP hK hD hS dX3_run_95 (km, kp, 3, u_16, u_17, u_18, u_29.2.1, u_29.2.2.1, u_29.2.2.2.1, u_29.2.2.2.2.1, qi, u_29.2.2.2.2.2, ql, qb) rfl ((E_25).trans ((fX3_run_25_s Cf Nf len vb pos RA RI RC na ni dy vl db SA SI SC na2 ni2 dy2 vl2 db2 fu x2 km kp QN qv qp QA QI QC qa qi qd ql qb).trans ((if_neg c28).trans ((bd1_e hk13).trans ((if_neg c42).trans ((bd4_e hk18).trans ((if_pos (bi_o c56)).trans ((bd1_e hk20).trans ((bdo_s _ _ _).trans ((bd1_e hk28).trans ((if_neg c78).trans ((if_neg c84).trans rfl))))))))))))
                · refine lv_iconst (v := 2) hx hb dX3_run_87 (by decide) ?_
                  refine lv_goto (tgt := 92) hx hb dX3_run_88 (by decide) ?_
                  refine va_put (D := D) (ci := 2) (v := .int 2) (ty := .int) (C := RX3) (T := TX3) (N := 5) hx hb hts w_2 tyX3 tyX3_ok nmX3 hown hK hP hD hS 0 rfl rfl 4 (by decide) w_5 (fun _ h9 => h9) rfl (by decide +kernel) rfl rfl (Nat.le_of_ble_eq_true rfl) dX3_run_92 (fun H locs hP hD hS => ?_)
                  have hP : va_P D vwCl ([rhW rh cs tr km kp 2, scW cI cC ad cs ck cn Cf u_16 len u_17 u_18, svW tr u1 u2 u3 b1 b2 b3 cI u_29.2.1 u_29.2.2.1 u_29.2.2.2.1 u_29.2.2.2.2.1 qi u_29.2.2.2.2.2 ql qb, svW h t1 t2 t3 a1 a2 a3 cI RA RI RC na ni dy vl db] : List va_W).flatten H := hP
                  have hD : va_D Fr ([rhW rh cs tr km kp 2, scW cI cC ad cs ck cn Cf u_16 len u_17 u_18, svW tr u1 u2 u3 b1 b2 b3 cI u_29.2.1 u_29.2.2.1 u_29.2.2.2.1 u_29.2.2.2.2.1 qi u_29.2.2.2.2.2 ql qb, svW h t1 t2 t3 a1 a2 a3 cI RA RI RC na ni dy vl db] : List va_W).flatten := hD
                  exact endV hx hb hr hlk hP hK hD hS dX3_run_95 (km, kp, 2, u_16, u_17, u_18, u_29.2.1, u_29.2.2.1, u_29.2.2.2.1, u_29.2.2.2.2.1, qi, u_29.2.2.2.2.2, ql, qb) rfl ((E_25).trans ((fX3_run_25_s Cf Nf len vb pos RA RI RC na ni dy vl db SA SI SC na2 ni2 dy2 vl2 db2 fu x2 km kp QN qv qp QA QI QC qa qi qd ql qb).trans ((if_neg c28).trans ((bd1_e hk13).trans ((if_neg c42).trans ((bd4_e hk18).trans ((if_pos (bi_o c56)).trans ((bd1_e hk20).trans ((bdo_s _ _ _).trans ((bd1_e hk28).trans ((if_neg c78).trans ((if_pos c84).trans rfl))))))))))))
          · refine lv_aload_n hx hb dX3_run_59 rfl (lv_at hl 0 rfl) ?_
            refine lv_iconst (v := 1) hx hb dX3_run_60 (by decide) ?_
            refine va_put (D := D) (ci := 2) (v := .int 1) (ty := .int) (C := RX3) (T := TX3) (N := 5) hx hb hts w_2 tyX3 tyX3_ok nmX3 hown hK hP hD hS 0 rfl rfl 4 (by decide) w_5 (fun _ h9 => h9) rfl (by decide +kernel) rfl rfl (Nat.le_of_ble_eq_true rfl) dX3_run_61 (fun H locs hP hD hS => ?_)
            have hP : va_P D vwCl ([rhW rh cs tr km kp 1, scW cI cC ad cs ck cn Cf u_16 len u_17 u_18, svW tr u1 u2 u3 b1 b2 b3 cI QA QI QC qa qi qd ql qb, svW h t1 t2 t3 a1 a2 a3 cI RA RI RC na ni dy vl db] : List va_W).flatten H := hP
            have hD : va_D Fr ([rhW rh cs tr km kp 1, scW cI cC ad cs ck cn Cf u_16 len u_17 u_18, svW tr u1 u2 u3 b1 b2 b3 cI QA QI QC qa qi qd ql qb, svW h t1 t2 t3 a1 a2 a3 cI RA RI RC na ni dy vl db] : List va_W).flatten := hD
            exact endV hx hb hr hlk hP hK hD hS dX3_run_64 (km, kp, 1, u_16, u_17, u_18, QA, QI, QC, qa, qi, qd, ql, qb) rfl ((E_25).trans ((fX3_run_25_s Cf Nf len vb pos RA RI RC na ni dy vl db SA SI SC na2 ni2 dy2 vl2 db2 fu x2 km kp QN qv qp QA QI QC qa qi qd ql qb).trans ((if_neg c28).trans ((bd1_e hk13).trans ((if_neg c42).trans ((bd4_e hk18).trans ((if_neg (bi_z c56)).trans rfl)))))))
  exact K_25 (((80 : Int32).toInt - (0 : Int32).toInt).toNat + 1) 0 0 0 Nf vb pos u_11.1 u_11.2.1 u_11.2.2.1 u_11.2.2.2.1 u_11.2.2.2.2.1 u_11.2.2.2.2.2.1 u_11.2.2.2.2.2.2.1 u_11.2.2.2.2.2.2.2 _ _ ls hP hD hS (lv_sub hl [1, 2, 0] rfl) (Nat.lt_succ_self _) ((bd1_e hk10).trans rfl)

