theorem adds_ok {S : Nat → Int32} {area : Int32} (ho : okS S) : okS (fX9_adds S area).2 := by
  simp only [fX9_adds, bd1]
  split
  · rename_i g
    split
    · exact ho
    · rename_i g24
      obtain ⟨m, hm, e⟩ := vp_in_of (vp_ne (n := 24) ho.1 (by decide) g24) (by decide)
      have har : vp_in area 4 := in_of g (by decide) (by decide)
      have ei : ((74 : Int32) + 10 * S 0 + 0).toNatClampNeg = 74 + 10 * m + 0 := by rw [e]; exact i_pl 0 hm (by decide)
      show okS (upd (upd S _ area) 0 _)
      rw [ei]
      rw [pk_un (by omega : (0 : Nat) ≠ 74 + 10 * m + 0), e, nI_1]
      refine ⟨?_, ?_, fun b hb => ?_⟩
      · rw [pk_us]; exact vp_in_nI (by omega) (by decide)
      · rw [pk_un (by decide), pk_un (by omega)]; exact ho.2.1
      · have h := ho.2.2 b hb
        obtain ⟨j, hj, rfl⟩ := vp_in_of hb (by decide)
        rw [of_0 _ hj] at h ⊢
        rw [pk_un (by omega)]
        by_cases q : j = m
        · subst q; rw [pk_us]; exact har
        · rw [pk_un (by omega)]; exact h
  · exact ho
theorem puts_ok {S : Nat → Int32} {a g w v : Int32} (ho : okS S) (ha : vp_in a 4) (hg : vp_in g 3) (hw : vp_in w 3) : okS (fX9_puts S a g w v).2 := by
  simp only [fX9_puts, bd1]
  have h1 := vp_cl ha (by decide)
  have h2 := vp_cl hg (by decide)
  have h3 := vp_cl hw (by decide)
  rw [iv_ce ha hg hw]
  exact upd_ok ho ⟨by omega, by omega, fun b => by omega⟩
theorem limits_ok {S : Nat → Int32} {a g w : Int32} (ho : okS S) : okS (fX9_limits S a g w).2 := by
  simp only [fX9_limits, bd1, bd2]
  split
  · rename_i h
    split
    · exact puts_ok ho (isCell_of h).1 (isCell_of h).2 (vp_d rfl)
    · exact ho
  · exact ho
theorem y_pl {a : Int32} (k : Nat) (ha : vp_in a 24) (hk : k < 10) : ((74 : Int32) + 10 * a + nI k).toNatClampNeg = 74 + 10 * a.toNatClampNeg + k := by
  obtain ⟨i, hi, rfl⟩ := vp_in_of ha (by decide)
  rw [i_pl k hi hk, nI_clamp (by omega)]
theorem interviews_ok {S : Nat → Int32} {w a g : Int32} (ho : okS S) (hw : vp_in w 5) (ha : vp_in a 24) (hg : vp_in g 3) : okS (fX9_interviews S w a g) := by
  simp only [fX9_interviews, bd1]
  have hc := ho.2.2 a ha
  have h1 := vp_cl hc (by decide)
  have h2 := vp_cl hg (by decide)
  have h3 := vp_cl hw (by decide)
  have e1 : ((74 : Int32) + 10 * a + 1).toNatClampNeg = 74 + 10 * a.toNatClampNeg + 1 := y_pl 1 ha (by decide)
  have e8 : ((74 : Int32) + 10 * a + 8).toNatClampNeg = 74 + 10 * a.toNatClampNeg + 8 := y_pl 8 ha (by decide)
  have ec : (1 : Int32).toNatClampNeg = 1 := rfl
  have ed : (4 : Int32).toNatClampNeg = 4 := rfl
  rw [e1, e8, iv_ce hc hg (vp_d rfl), iv_wh hw (vp_d rfl), ec, ed]
  have u1 : ∀ {v : Int32} {S : Nat → Int32}, okS S → okS (upd S (74 + 10 * a.toNatClampNeg + 1) v) := fun h => upd_ok h ⟨by omega, by omega, fun b => by omega⟩
  have u8 : ∀ {v : Int32} {S : Nat → Int32}, okS S → okS (upd S (74 + 10 * a.toNatClampNeg + 8) v) := fun h => upd_ok h ⟨by omega, by omega, fun b => by omega⟩
  split
  · exact u8 (u1 ho)
  · refine upd_ok (upd_ok (upd_ok (u8 (u1 ho)) ⟨by omega, by omega, fun b => by omega⟩) ⟨by omega, by omega, fun b => by omega⟩) ⟨by omega, by omega, fun b => by omega⟩
theorem calls_ok {S : Nat → Int32} {w a t x : Int32} (ho : okS S) : okS (fX9_calls S w a t x).2 := by
  simp only [fX9_calls, bd1]
  split
  · rename_i h1
    have hA := as_of h1 ho.1 ho.2.1
    have hk := counts_ok (t := t) hA.1 hA.2 ho
    have e1 : ((74 : Int32) + 10 * a + 1).toNatClampNeg = 74 + 10 * a.toNatClampNeg + 1 := y_pl 1 hA.2 (by decide)
    have e3 : ((74 : Int32) + 10 * a + 3).toNatClampNeg = 74 + 10 * a.toNatClampNeg + 3 := y_pl 3 hA.2 (by decide)
    have u1 : ∀ {v : Int32} {S : Nat → Int32}, okS S → okS (upd S (74 + 10 * a.toNatClampNeg + 1) v) := fun h => upd_ok h ⟨by omega, by omega, fun b => by omega⟩
    have u3 : ∀ {v : Int32} {S : Nat → Int32}, okS S → okS (upd S (74 + 10 * a.toNatClampNeg + 3) v) := fun h => upd_ok h ⟨by omega, by omega, fun b => by omega⟩
    have u4 : ∀ {v : Int32} {S : Nat → Int32}, okS S → okS (upd S 4 v) := fun h => upd_ok h ⟨by omega, by omega, fun b => by omega⟩
    rw [e1, e3]
    split
    · rename_i h2
      split
      · split
        · split
          · exact u1 (u4 (u3 hk))
          · exact u1 (u4 (u3 hk))
        · split
          · exact u1 hk
          · rename_i x0 x1
            dsimp only
            exact interviews_ok hk hA.1 hA.2 (wh_of h2 x0 x1)
      · exact ho
    · exact ho
  · exact ho
theorem fixes_ok {S : Nat → Int32} {w a t d n : Int32} (ho : okS S) : okS (fX9_fixes S w a t d n).2 := by
  simp only [fX9_fixes, bd1]
  split
  · rename_i h1
    have hA := as_of h1 ho.1 ho.2.1
    have hk := counts_ok (t := t) hA.1 hA.2 ho
    have e6 : ((74 : Int32) + 10 * a + 6).toNatClampNeg = 74 + 10 * a.toNatClampNeg + 6 := y_pl 6 hA.2 (by decide)
    have e7 : ((74 : Int32) + 10 * a + 7).toNatClampNeg = 74 + 10 * a.toNatClampNeg + 7 := y_pl 7 hA.2 (by decide)
    rw [e6, e7]
    split
    · split
      · split
        · split
          · exact upd_ok (upd_ok hk ⟨by omega, by omega, fun b => by omega⟩) ⟨by omega, by omega, fun b => by omega⟩
          · exact ho
        · exact ho
      · exact ho
    · exact ho
  · exact ho
theorem passes_L (S : Nat → Int32) (days : Int32) : ∀ (fu : Nat) (x : Int32) (Q : Nat → Int32), ((S 1).toInt - x.toInt).toNat < fu → S 1 = Q 1 → ¬ x < 0 → okS Q → okS (fX9_passes_41 S days fu x Q).2 := by
  intro fu
  induction fu with
  | zero =>
    intro x Q h
    exact absurd h (Nat.not_lt_zero _)
  | succ fu ih =>
    intro x Q h e h0 ho
    rw [fX9_passes_41_s]
    split
    · exact ho
    · rename_i c
      have hx : vp_in x 5 := vp_k h0 c ho.2.1
      have h1 := vp_cl hx (by decide)
      have ei : ((44 : Int32) + 6 * x + 2).toNatClampNeg = 44 + 6 * x.toNatClampNeg + 2 := iv_wh hx (vp_d rfl)
      have c' : ¬ S 1 ≤ x := by rw [e]; exact c
      refine ih (x + 1) _ (Nat.lt_of_lt_of_le (lp_dec c') (Nat.le_of_lt_succ h)) ?_ (up_k h0 c) ?_
      · rw [ei, pk_un (by omega)]; exact e
      · rw [ei]; exact upd_ok ho ⟨by omega, by omega, fun b => by omega⟩
theorem passes_ok {S : Nat → Int32} {d : Int32} (ho : okS S) : okS (fX9_passes S d).2 := by
  simp only [fX9_passes, bd1]
  split
  · split
    · exact passes_L S d _ 0 _ (Nat.lt_succ_self _) (pk_un (by decide)).symm (by decide) (upd_ok ho ⟨by omega, by omega, fun b => by omega⟩)
    · exact ho
  · exact ho
theorem cmd_L (S Tx Nu : Nat → Int32) (ln ps : Int32) (ho : okS S) : ∀ (fu : Nat) (w x2 : Int32) (Q : Nat → Int32) (pp : Int32) (f : Bool), ((fX9_manyOf w).toInt - x2.toInt).toNat < fu → cmI pp x2 → vp_in (fX9_manyOf w) 6 → okS (fX9_command_20 S Tx Nu ln ps fu w x2 Q pp f).2.1 ∧ pp.toInt + 1 ≤ (fX9_command_20 S Tx Nu ln ps fu w x2 Q pp f).2.2.2.1.toInt ∧ (fX9_command_20 S Tx Nu ln ps fu w x2 Q pp f).2.2.2.1.toInt ≤ 121 := by
  intro fu
  induction fu with
  | zero =>
    intro w x2 Q pp f h
    exact absurd h (Nat.not_lt_zero _)
  | succ fu ih =>
    intro w x2 Q pp f h hi hm
    have hi' := hi
    obtain ⟨i1, i2, i3, i4⟩ := hi'
    have hp := must_ps Tx ln pp f 59
    have e1 := inc_ti (x := pp) (by omega)
    have hb : pp.toInt + 1 ≤ (fX9_must Tx ln pp f 59).1.toInt ∧ (fX9_must Tx ln pp f 59).1.toInt ≤ 121 := by
      rw [hp]; constructor <;> omega
    clear hp
    rw [fX9_command_20_s]
    simp only [bd1, bd2, bd3]
    by_cases c : f = true
    · rw [if_pos c]
      by_cases c2 : fX9_manyOf w ≤ x2
      · rw [if_pos c2]
        split
        · split
          · exact ⟨adds_ok ho, hb⟩
          · split
            · exact ⟨limits_ok ho, hb⟩
            · split
              · exact ⟨calls_ok ho, hb⟩
              · split
                · exact ⟨calls_ok ho, hb⟩
                · split
                  · exact ⟨calls_ok ho, hb⟩
                  · split
                    · exact ⟨fixes_ok ho, hb⟩
                    · exact ⟨passes_ok ho, hb⟩
        · exact ⟨ho, hb⟩
      · rw [if_neg c2]
        have g := rn_b (Tx := Tx) (ln := ln) (fm := f) (cm_q hi)
        have hi2 : cmI (fX9_readNumber Tx ln pp f).2.1 (x2 + 1) := cm_1 hi rfl hm c2 (r := (fX9_readNumber Tx ln pp f).1) (f' := (fX9_readNumber Tx ln pp f).2.2) rfl
        have k := ih w (x2 + 1) (upd Q x2.toNatClampNeg (fX9_readNumber Tx ln pp f).1) (fX9_readNumber Tx ln pp f).2.1 (fX9_readNumber Tx ln pp f).2.2 (Nat.lt_of_lt_of_le (lp_dec c2) (Nat.le_of_lt_succ h)) hi2 hm
        exact ⟨k.1, by omega, k.2.2⟩
    · rw [if_neg c]
      split
      · split
        · exact ⟨adds_ok ho, hb⟩
        · split
          · exact ⟨limits_ok ho, hb⟩
          · split
            · exact ⟨calls_ok ho, hb⟩
            · split
              · exact ⟨calls_ok ho, hb⟩
              · split
                · exact ⟨calls_ok ho, hb⟩
                · split
                  · exact ⟨fixes_ok ho, hb⟩
                  · exact ⟨passes_ok ho, hb⟩
      · exact ⟨ho, hb⟩
theorem cmd_b {S Tx Nu : Nat → Int32} {ln ps : Int32} (ho : okS S) (hq : vp_in ps 81) : okS (fX9_command S Tx Nu ln ps).2.1 ∧ ps.toInt + 1 ≤ (fX9_command S Tx Nu ln ps).2.2.2.1.toInt ∧ (fX9_command S Tx Nu ln ps).2.2.2.1.toInt ≤ 121 := by
  have h := rw_b (Tx := Tx) (ln := ln) (vp_le hq (by decide) : vp_in ps 250)
  have h0 := cm_0 (Tx := Tx) (ln := ln) (a := (fX9_readWord Tx ln ps).1) (b := (fX9_readWord Tx ln ps).2) rfl hq
  have hm := cm_m (Tx := Tx) (ln := ln) (a := (fX9_readWord Tx ln ps).1) (b := (fX9_readWord Tx ln ps).2) rfl hq
  simp only [fX9_command, bd2]
  have k := fun f => cmd_L S Tx Nu ln ps ho (((fX9_manyOf (fX9_readWord Tx ln ps).1).toInt - (0 : Int32).toInt).toNat + 1) (fX9_readWord Tx ln ps).1 0 Nu (fX9_readWord Tx ln ps).2 f (Nat.lt_succ_self _) h0 hm
  split
  · have g := k false
    exact ⟨g.1, by omega, g.2.2⟩
  · have g := k true
    exact ⟨g.1, by omega, g.2.2⟩
theorem does_1 {S Tx Nu : Nat → Int32} {ln ps r pp : Int32} {S' Nu' : Nat → Int32} {f : Bool} (h : fX9_command S Tx Nu ln ps = (r, S', Nu', pp, f)) (ho : okS S) (h0 : ¬ ps < 0) (c : ¬ ln ≤ ps) (hL : vp_in ln 81) : okS S' ∧ ¬ pp < 0 ∧ (ln.toInt - pp.toInt).toNat < (ln.toInt - ps.toInt).toNat := by
  have hq : vp_in ps 80 := vp_k h0 c hL
  have g := cmd_b (Tx := Tx) (Nu := Nu) (ln := ln) ho (vp_le hq (by decide) : vp_in ps 81)
  rw [h] at g
  have g1 : okS S' := g.1
  have g2 : ps.toInt + 1 ≤ pp.toInt := g.2.1
  have hq' := vp_in_iff.mp hq
  have c' := nle_ti c
  exact ⟨g1, nn_ti (by omega), by omega⟩
def bd6 {α β δ ε ζ η γ : Type} (x : α × β × δ × ε × ζ × η) (f : α → β → δ → ε → ζ → η → γ) : γ := f x.1 x.2.1 x.2.2.1 x.2.2.2.1 x.2.2.2.2.1 x.2.2.2.2.2
theorem bd6_e {α β δ ε ζ η γ : Type} {x : α × β × δ × ε × ζ × η} {f : α → β → δ → ε → ζ → η → γ} {a : α} {b : β} {d : δ} {e : ε} {z : ζ} {y : η} (h : x = (a, b, d, e, z, y)) : bd6 x f = f a b d e z y := by rw [bd6, h]
def bd7 {α β δ ε ζ η θ γ : Type} (x : α × β × δ × ε × ζ × η × θ) (f : α → β → δ → ε → ζ → η → θ → γ) : γ := f x.1 x.2.1 x.2.2.1 x.2.2.2.1 x.2.2.2.2.1 x.2.2.2.2.2.1 x.2.2.2.2.2.2
theorem bd7_e {α β δ ε ζ η θ γ : Type} {x : α × β × δ × ε × ζ × η × θ} {f : α → β → δ → ε → ζ → η → θ → γ} {a : α} {b : β} {d : δ} {e : ε} {z : ζ} {y : η} {t : θ} (h : x = (a, b, d, e, z, y, t)) : bd7 x f = f a b d e z y t := by rw [bd7, h]
def bd8 {α β δ ε ζ η θ κ γ : Type} (x : α × β × δ × ε × ζ × η × θ × κ) (f : α → β → δ → ε → ζ → η → θ → κ → γ) : γ := f x.1 x.2.1 x.2.2.1 x.2.2.2.1 x.2.2.2.2.1 x.2.2.2.2.2.1 x.2.2.2.2.2.2.1 x.2.2.2.2.2.2.2
theorem bd8_e {α β δ ε ζ η θ κ γ : Type} {x : α × β × δ × ε × ζ × η × θ × κ} {f : α → β → δ → ε → ζ → η → θ → κ → γ} {a : α} {b : β} {d : δ} {e : ε} {z : ζ} {y : η} {t : θ} {k : κ} (h : x = (a, b, d, e, z, y, t, k)) : bd8 x f = f a b d e z y t k := by rw [bd8, h]
