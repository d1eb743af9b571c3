/-! appointments -/
theorem fixed_open {S : Nat → Int32} {a : Int32} (h : ¬ fX9_isOpen S a = true) : fX9_isFixed S a = false := by
  unfold fX9_isFixed
  simp only [bd_1]
  rw [if_neg h]
theorem appt_eq {B n k : Nat} {RA RI RC S : Nat → Int32} {dy vl db : Int32} (h : rel B n k RA RI RC dy vl db S) : fX5_meetings RA (nI n) = fX9_appointments S := by
  obtain ⟨⟨⟨hn, hk⟩, ⟨s0, s1, s2, s6, s7⟩, hdv⟩, hr, -⟩ := id h
  have key : ∀ (m i : Nat) (x : Int32), i + m = n → fX5_meetings_4 RA (nI n) (m + 1) x (nI i) = fX9_appointments_4 S (m + 1) x (nI i) := by
    intro m
    induction m with
    | zero =>
      intro i x e
      rw [fX5_meetings_4_s, fX9_appointments_4_s, s0, if_pos (show nI n ≤ nI i from nI_le (by omega) (by omega)), if_pos (show nI n ≤ nI i from nI_le (by omega) (by omega))]
    | succ m ih =>
      intro i x e
      have hi : i < 24 := by omega
      rw [fX5_meetings_4_s, fX9_appointments_4_s, s0, if_neg (show ¬ nI n ≤ nI i from nI_ge (by omega) (by omega)), if_neg (show ¬ nI n ≤ nI i from nI_ge (by omega) (by omega))]
      simp only [bd_1]
      rw [nI_1, Int32.add_zero, ih (i + 1) x (by omega), ih (i + 1) (x + 1) (by omega), open_eq hi (hr i (by omega)).1, fixed_eq hi (hr i (by omega)).1 (hr i (by omega)).2]
      by_cases c : fX9_isOpen S (nI i) = true
      · rw [if_pos c]
      · rw [if_neg c, fixed_open c, if_neg (by decide)]
  unfold fX5_meetings fX9_appointments
  rw [s0, fuel_eq (by omega)]
  have := key n 0 0 (by omega)
  rw [nI_0] at this
  exact this
theorem sim_fix {B n k : Nat} {RA RI RC S : Nat → Int32} {dy vl db : Int32} (h : rel B n k RA RI RC dy vl db S) (hB : B < 2 ^ 31 - 3) (who adr time day then_ : Int32) : (fX5_makeMeeting RA RI (nI n) (nI k) dy db who adr time day then_).1 = (fX9_fixes S who adr time day then_).1 ∧ relT (B + 2) (fX5_makeMeeting RA RI (nI n) (nI k) dy db who adr time day then_).2.1 (fX5_makeMeeting RA RI (nI n) (nI k) dy db who adr time day then_).2.2 RC (nI n) (nI k) dy vl db (fX9_fixes S who adr time day then_).2 := by
  have same : relT (B + 2) RA RI RC (nI n) (nI k) dy vl db S := ⟨n, k, rfl, rfl, rel_le h (by omega)⟩
  obtain ⟨⟨⟨hn, hk⟩, ⟨s0, s1, s2, s6, s7⟩, hdv⟩, hr, he, hi, hik, hz2, hc, hs⟩ := id h
  unfold fX5_makeMeeting fX9_fixes fX8_isTime
  rw [in_eq, asked_eq s0 s1]
  simp only [bd_1]
  by_cases c1 : fX9_isAsked S who adr time = true
  · rw [if_pos c1, if_pos c1]
    by_cases c2 : fX9_in day 0 999 = true
    · rw [if_pos c2, if_pos c2]
      by_cases c3 : fX9_in then_ 0 2 = true
      · rw [if_pos c3, if_pos c3]
        obtain ⟨w, a, hw, ha, rfl, rfl, c5⟩ := asked_idx hn hk s0 s1 c1
        have hw5 : w < 5 := by omega
        have ha' : a < 24 := by omega
        rw [may_eq (vl := vl) (n := n) (k := k) hw5 ha' (by omega) (hr a ha).1 (hr a ha).2 (hi w hw5) s2 s7, s2]
        by_cases c6 : day ≤ dy
        · rw [if_pos c6, if_neg (show ¬ dy < day from Int32.not_lt.mpr c6)]
          by_cases c4 : fX9_mayCall S (nI w) (nI a) time = true
          · rw [if_pos c4]
            exact ⟨rfl, same⟩
          · rw [if_neg c4]
            exact ⟨rfl, same⟩
        · rw [if_neg c6, if_pos (show dy < day from Int32.not_le.mp c6)]
          by_cases c4 : fX9_mayCall S (nI w) (nI a) time = true
          · rw [if_pos c4, if_pos c4]
            have c4' := c4
            unfold fX9_mayCall at c4'
            simp only [bd_1] at c4'
            have hop : fX9_isOpen S (nI a) = true := Classical.byContradiction fun q => by rw [if_neg q] at c4'; cases c4'
            rw [if_pos hop, oW_2 hw5, oW_1 hw5] at c4'
            have hm : S (iW w 2) < S (iW w 1) := Classical.byContradiction fun q => by rw [if_neg q] at c4'; cases c4'
            have o0 : S (iP a 1) = 0 := Classical.byContradiction fun q => by
              unfold fX9_isOpen at hop
              simp only [bd_1] at hop
              rw [oP_1 ha', if_neg q] at hop
              cases hop
            have R := rel_counts (time := time) h hw ha (by omega) hm
            have x1 : cntS S w a time (iP a 1) = 0 := by
              unfold cntS
              rw [u_nP (by decide), u_WP hw5 (by decide), u_WP hw5 (by decide), u_WP hw5 (by decide), u_PP (by decide) (by decide), if_neg (by omega), u_PP (by decide) (by decide), if_neg (by omega), u_PP (by decide) (by decide), if_neg (by omega), u_PP (by decide) (by decide), if_neg (by omega), u_PP (by decide) (by decide), if_neg (by omega)]
              exact o0
            rw [counts_c hw5 ha', counts_m hw5 ha', bd_2, pA_6 ha', pA_7 ha', tP_6 ha', tP_7 ha']
            generalize cntA RA a dy time (nI w) = RA1 at R ⊢
            generalize cntI RI w (RA (iA a 0)) = RI1 at R ⊢
            generalize cntS S w a time = S1 at R x1 ⊢
            have d := in_rng c2
            have e0 : (0 : Int32).toInt = 0 := by decide
            have e9 : (999 : Int32).toInt = 999 := by decide
            rw [e0, e9] at d
            have F := rel_fix (t := then_) R ha x1 d
            dsimp only
            exact ⟨appt_eq F, n, k, rfl, rfl, rel_le F (by omega)⟩
          · rw [if_neg c4, if_neg c4]
            exact ⟨rfl, same⟩
      · rw [if_neg c3, if_neg c3]
        exact ⟨rfl, same⟩
    · rw [if_neg c2, if_neg c2]
      exact ⟨rfl, same⟩
  · rw [if_neg c1, if_neg c1]
    exact ⟨rfl, same⟩
