/-! who is next -/
theorem rank_eq {B n k : Nat} {RA RI RC S : Nat → Int32} {dy vl db : Int32} (h : rel B n k RA RI RC dy vl db S) (hB : B < 999999) {w a : Nat} (hw : w < 5) (ha : a < n) : ∃ R c : Nat, R ≤ 11 ∧ c ≤ B ∧ S (iP a 2) = nI c ∧ fX9_rank S (nI a) (nI w) = nI R ∧ fX2_rankOf RA RI RC dy (nI w) (nI a) = nI (R * 1000000 + c) := by
  obtain ⟨⟨⟨hn, hk⟩, ⟨s0, s1, s2, s6, s7⟩, hdv⟩, hr, he, hi, hik, hz2, hc, hs⟩ := id h
  have ha' : a < 24 := by omega
  have hf := fixed_eq ha' (hr a ha).1 (hr a ha).2
  have hv := over_eq ha' (hr a ha).1 (hr a ha).2 s2
  obtain ⟨c, hcB, ec⟩ := rng_nI (hr a ha).2.2.2.2.1 (by omega)
  obtain ⟨x, hx, ex⟩ := rng_nI (hi := 3) (hr a ha).2.1 (by decide)
  have hx : x < 4 := by omega
  have eA : RA (iA a 0) = nI x := by rw [(hr a ha).1.1.1]; exact ex
  have eA2 : RA (iA a 2) = nI c := by rw [(hr a ha).1.1.2.2.1]; exact ec
  have eI : RI (iI w 0) = S (iW w 0) := hi w hw 0 (by decide)
  have har := area_eq hx (fun g hg => (hc x hx g hg).1)
  have hmin : (if (999999 : Int32) < nI c then (999999 : Int32) else nI c) = nI c := if_neg (fun q => by
    have := Int32.lt_iff_toInt_lt.mp q
    have e : (999999 : Int32).toInt = 999999 := by decide
    rw [nI_toInt (by omega), e] at this
    omega)
  have key : ∀ f : Nat, f ≤ 2 → ∃ R, R ≤ 11 ∧ fX9_rank_25 S (nI a) (nI w) (nI f) = nI R ∧ fX2_rankOf_42 RA RI RC dy (nI w) (nI a) (nI x) (nI f) = nI (R * 1000000 + c) := by
    intro f hf2
    unfold fX9_rank_25 fX2_rankOf_42 fX5_ofInterviewer fX5_ofAddress
    simp only [bd_1]
    rw [gI_0 hw, gA_2 ha', oP_0 ha', oW_0 hw, eI, eA2, ex, har, hmin]
    have lit : ∀ R : Nat, nI R * 1000000 + nI c = nI (R * 1000000 + c) := fun R => by
      rw [show (1000000 : Int32) = nI 1000000 from rfl, pk_mul, nI_add]
    have num : ∀ f : Nat, f ≤ 2 → (nI f * 2 + 0) * 2 + 1 = nI (4 * f + 1) ∧ (nI f * 2 + 0) * 2 + 0 = nI (4 * f) ∧ (nI f * 2 + 1) * 2 + 1 = nI (4 * f + 3) ∧ (nI f * 2 + 1) * 2 + 0 = nI (4 * f + 2) ∧ 4 * nI f + 2 * 0 + 1 = nI (4 * f + 1) ∧ 4 * nI f + 2 * 0 + 0 = nI (4 * f) ∧ 4 * nI f + 2 * 1 + 1 = nI (4 * f + 3) ∧ 4 * nI f + 2 * 1 + 0 = nI (4 * f + 2) := by decide +kernel
    obtain ⟨n1, n2, n3, n4, n5, n6, n7, n8⟩ := num f hf2
    rw [n1, n2, n3, n4, n5, n6, n7, n8, lit, lit, lit, lit]
    by_cases d1 : S (iW w 0) = nI x
    · rw [if_pos d1, if_pos d1.symm]
      by_cases d2 : fX9_wantedIn S (nI x) ≤ 0
      · rw [if_pos d2, if_pos d2]; exact ⟨4 * f + 1, by omega, rfl, rfl⟩
      · rw [if_neg d2, if_neg d2]; exact ⟨4 * f, by omega, rfl, rfl⟩
    · rw [if_neg d1, if_neg (fun q => d1 q.symm)]
      by_cases d2 : fX9_wantedIn S (nI x) ≤ 0
      · rw [if_pos d2, if_pos d2]; exact ⟨4 * f + 3, by omega, rfl, rfl⟩
      · rw [if_neg d2, if_neg d2]; exact ⟨4 * f + 2, by omega, rfl, rfl⟩
  unfold fX9_rank fX2_rankOf fX5_ofAddress
  simp only [bd_1]
  rw [hf, hv, gA_0 ha', eA]
  obtain ⟨R0, a0, b0, c0⟩ := key 0 (by omega)
  obtain ⟨R1, a1, b1, c1⟩ := key 1 (by omega)
  obtain ⟨R2, a2, b2, c2⟩ := key 2 (by omega)
  by_cases d : fX9_isFixed S (nI a) = true
  · rw [if_pos d, if_pos d]
    by_cases d2 : fX9_isOver S (nI a) = true
    · rw [if_pos d2, if_pos d2]; exact ⟨R1, c, a1, hcB, ec, b1, c1⟩
    · rw [if_neg d2, if_neg d2]; exact ⟨R0, c, a0, hcB, ec, b0, c0⟩
  · rw [if_neg d, if_neg d]; exact ⟨R2, c, a2, hcB, ec, b2, c2⟩
theorem sub_nI {a b : Nat} (ha : a < 2 ^ 30) (hb : b < 2 ^ 30) : (nI a - nI b).toInt = (a : Int) - (b : Int) := by
  rw [Int32.toInt_sub, nI_toInt (by omega), nI_toInt (by omega)]
  apply Int.bmod_eq_of_le <;> omega
theorem ahead_eq {S : Nat → Int32} {w a b R1 R2 c1 c2 : Nat} (ha : a < 24) (hb : b < 24) (hba : b < a) (h1 : fX9_rank S (nI a) (nI w) = nI R1) (h2 : fX9_rank S (nI b) (nI w) = nI R2) (e1 : S (iP a 2) = nI c1) (e2 : S (iP b 2) = nI c2) (l1 : R1 ≤ 11) (l2 : R2 ≤ 11) (m1 : c1 < 999999) (m2 : c2 < 999999) : fX9_isAhead S (nI a) (nI b) (nI w) = decide (R1 * 1000000 + c1 < R2 * 1000000 + c2) := by
  unfold fX9_isAhead
  simp only [bd_1]
  rw [h1, h2, oP_2 ha, oP_2 hb, e1, e2]
  have e0 : (0 : Int32).toInt = 0 := by decide
  have es := sub_nI (a := c1) (b := c2) (by omega) (by omega)
  by_cases q1 : R1 < R2
  · rw [if_pos (show nI R1 < nI R2 from nI_lt q1 (by omega))]
    exact (decide_eq_true (by omega)).symm
  · rw [if_neg (show ¬ nI R1 < nI R2 from nI_nlt (by omega) (by omega))]
    by_cases q2 : R1 = R2
    · rw [if_pos (by rw [q2])]
      by_cases q3 : c1 < c2
      · rw [if_pos (show nI c1 - nI c2 < 0 from Int32.lt_iff_toInt_lt.mpr (by rw [es, e0]; omega))]
        exact (decide_eq_true (by omega)).symm
      · rw [if_neg (show ¬ nI c1 - nI c2 < 0 from fun q => by have := Int32.lt_iff_toInt_lt.mp q; rw [es, e0] at this; omega), if_pos (show nI b ≤ nI a from nI_le (by omega) (by omega))]
        have : ¬ R1 * 1000000 + c1 < R2 * 1000000 + c2 := by omega
        rw [decide_eq_false this]
        by_cases q4 : nI c1 - nI c2 = 0
        · rw [if_pos q4]
        · rw [if_neg q4]
    · rw [if_neg (show ¬ nI R1 = nI R2 from fun q => q2 ((nI_eq (by omega) (by omega)).mp q))]
      exact (decide_eq_false (by omega)).symm
theorem ahead_iff {S : Nat → Int32} {w a b R1 R2 c1 c2 : Nat} (ha : a < 24) (hb : b < 24) (hba : b < a) (h1 : fX9_rank S (nI a) (nI w) = nI R1) (h2 : fX9_rank S (nI b) (nI w) = nI R2) (e1 : S (iP a 2) = nI c1) (e2 : S (iP b 2) = nI c2) (l1 : R1 ≤ 11) (l2 : R2 ≤ 11) (m1 : c1 < 999999) (m2 : c2 < 999999) : fX9_isAhead S (nI a) (nI b) (nI w) = true ↔ R1 * 1000000 + c1 < R2 * 1000000 + c2 := by
  rw [ahead_eq ha hb hba h1 h2 e1 e2 l1 l2 m1 m2]
  exact decide_eq_true_iff
theorem bnd_r {R c B : Nat} (h1 : R ≤ 11) (h2 : c ≤ B) (h3 : B < 999999) : R * 1000000 + c < 2 ^ 31 := by omega
theorem sim_next {B n k : Nat} {RA RI RC S : Nat → Int32} {dy vl db : Int32} (h : rel B n k RA RI RC dy vl db S) (hB : B < 999999) (who time : Int32) : fX8_next RA RI RC (nI n) (nI k) dy db who time = fX9_next S who time := by
  obtain ⟨⟨⟨hn, hk⟩, ⟨s0, s1, s2, s6, s7⟩, hdv⟩, hr, he, hi, -⟩ := id h
  unfold fX8_next fX9_next fX5_hasInterviewer fX9_isStaff fX8_isTime fX2_bestAddress
  rw [in_eq]
  simp only [bd_1]
  rw [s0, s1, fuel_eq (by omega)]
  by_cases c1 : fX9_in who 0 (nI k - 1) = true
  · rw [if_pos c1, if_pos c1]
    obtain ⟨w, hw, rfl⟩ := idx_of (by omega) c1
    have hw5 : w < 5 := by omega
    have key : ∀ (m i : Nat) (x y r : Int32), i + m = n → (x = -4 ∧ y = -1 ∨ ∃ b R c : Nat, b < i ∧ x = nI b ∧ y = nI b ∧ R ≤ 11 ∧ c ≤ B ∧ S (iP b 2) = nI c ∧ fX9_rank S (nI b) (nI w) = nI R ∧ r = nI (R * 1000000 + c)) → fX2_bestAddress_9 RA RI RC (nI n) dy db (nI w) time (m + 1) x r (nI i) = fX9_next_24 S (nI w) time (m + 1) y (nI i) := by
      intro m
      induction m with
      | zero =>
        intro i x y r e hxy
        rw [fX2_bestAddress_9_s, fX9_next_24_s, s0, if_pos (show nI n ≤ nI i from nI_le (by omega) (by omega)), if_pos (show nI n ≤ nI i from nI_le (by omega) (by omega))]
        rcases hxy with ⟨rfl, rfl⟩ | ⟨b, R, c, hb, rfl, rfl, -⟩
        · rw [if_neg (by decide)]
        · rw [if_pos (show (0 : Int32) ≤ nI b from nI_pos' (by omega))]
      | succ m ih =>
        intro i x y r e hxy
        have hi' : i < 24 := by omega
        obtain ⟨R1, c1, l1, m1, e1, h1, r1⟩ := rank_eq h hB hw5 (a := i) (by omega)
        rw [fX2_bestAddress_9_s, fX9_next_24_s, s0, if_neg (show ¬ nI n ≤ nI i from nI_ge (by omega) (by omega)), if_neg (show ¬ nI n ≤ nI i from nI_ge (by omega) (by omega))]
        simp only [bd_1]
        rw [nI_1, may_eq (vl := vl) (n := n) (k := k) hw5 hi' (by omega) (hr i (by omega)).1 (hr i (by omega)).2 (hi w hw5) s2 s7, r1]
        by_cases q : fX9_mayCall S (nI w) (nI i) time = true
        · rw [if_pos q, if_pos q]
          have new := ih (i + 1) (nI i) (nI i) (nI (R1 * 1000000 + c1)) (by omega) (Or.inr ⟨i, R1, c1, by omega, rfl, rfl, l1, m1, e1, h1, rfl⟩)
          rcases hxy with ⟨rfl, rfl⟩ | ⟨b, R, c, hb, rfl, rfl, l2, m2, e2, h2, rfl⟩
          · rw [if_pos rfl, if_pos (by decide)]
            exact new
          · rw [if_neg (show ¬ nI b = -4 from ne_m4 (by rw [nI_toInt (by omega)]; omega)), if_neg (show ¬ nI b < 0 from nI_pos (by omega))]
            have az := ahead_iff (w := w) hi' (by omega) hb h1 h2 e1 e2 l1 l2 (by omega) (by omega)
            have old := ih (i + 1) (nI b) (nI b) (nI (R * 1000000 + c)) (by omega) (Or.inr ⟨b, R, c, by omega, rfl, rfl, l2, m2, e2, h2, rfl⟩)
            have bR : R * 1000000 + c < 2 ^ 31 := bnd_r l2 m2 hB
            have bR1 : R1 * 1000000 + c1 < 2 ^ 31 := bnd_r l1 m1 hB
            by_cases z : R1 * 1000000 + c1 < R * 1000000 + c
            · have z2 : ¬ nI (R * 1000000 + c) ≤ nI (R1 * 1000000 + c1) := nI_ge z bR
              rw [if_neg z2, if_pos (az.mpr z)]
              exact new
            · rw [if_pos (show nI (R * 1000000 + c) ≤ nI (R1 * 1000000 + c1) from nI_le (Nat.not_lt.mp z) bR1), if_neg (fun q => z (az.mp q))]
              exact old
        · rw [if_neg q, if_neg q]
          refine ih (i + 1) x y r (by omega) ?_
          rcases hxy with g | ⟨b, R, c, hb, g⟩
          · exact Or.inl g
          · exact Or.inr ⟨b, R, c, by omega, g⟩
    have := key n 0 (-4) (-1) 0 (by omega) (Or.inl ⟨rfl, rfl⟩)
    rw [nI_0] at this
    rw [this]
  · rw [if_neg c1, if_neg c1]
