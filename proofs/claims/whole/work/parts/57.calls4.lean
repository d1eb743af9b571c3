/-! calls and appointments: the class as the reference -/
theorem want_eq {RC S : Nat → Int32} {x g : Nat} (hx : x < 4) (hg : g < 3) (h : ceR RC S x g) : fX5_wantedIn RC (nI x) (nI g) = fX9_wanted S (nI x) (nI g) := by
  unfold fX5_wantedIn fX9_wanted
  simp only [bd_1]
  rw [gC_0 hx hg, gC_1 hx hg, oC_0 hx hg, oC_1 hx hg, h 0 (by decide), h 1 (by decide)]
  by_cases c : S (iC x g 0) - S (iC x g 1) ≤ 0
  · rw [if_pos c]
    by_cases c2 : (0 : Int32) ≤ S (iC x g 0) - S (iC x g 1)
    · rw [if_pos c2]
      exact (Int32.le_antisymm c c2).symm
    · rw [if_neg c2]
  · rw [if_neg c, if_pos (Int32.le_of_lt (Int32.not_le.mp c))]
theorem want_nn {S : Nat → Int32} {x g : Int32} : 0 ≤ fX9_wanted S x g := by
  unfold fX9_wanted
  simp only [bd_1]
  split
  · assumption
  · exact Int32.le_refl 0
theorem want_pos {S : Nat → Int32} {x g : Nat} (hx : x < 4) (hg : g < 3) (hK : ceK S x g) (h : ¬ fX9_wanted S (nI x) (nI g) ≤ 0) : (S (iC x g 1)).toInt < 20 := by
  unfold fX9_wanted at h
  simp only [bd_1] at h
  rw [oC_0 hx hg, oC_1 hx hg] at h
  obtain ⟨⟨q1, q2⟩, ⟨d1, d2⟩, -⟩ := hK
  have e0 : (0 : Int32).toInt = 0 := by decide
  have es : (S (iC x g 0) - S (iC x g 1)).toInt = (S (iC x g 0)).toInt - (S (iC x g 1)).toInt := by
    rw [Int32.toInt_sub]
    apply Int.bmod_eq_of_le <;> omega
  split at h
  · have h := (not_congr Int32.le_iff_toInt_le).mp h
    rw [es, e0] at h
    omega
  · exact absurd (Int32.le_refl 0) h
theorem vain_c {RA : Nat → Int32} {vl : Int32} {a : Nat} (ha : a < 24) : fX5_noteVain RA vl (nI a) = if RA (iA a 3) + 1 < vl then upd RA (iA a 3) (RA (iA a 3) + 1) else upd (upd RA (iA a 3) (RA (iA a 3) + 1)) (iA a 1) 3 := by
  unfold fX5_noteVain
  simp only [bd_1]
  rw [nA_3 ha, gA_3 ha, pA_1 ha, u_is]
theorem int_c {RA RI RC : Nat → Int32} {w a x g : Nat} (hw : w < 5) (ha : a < 24) (hx : x < 4) (hg : g < 3) (e : RA (iA a 0) = nI x) : fX5_noteInterview RA RI RC (nI w) (nI a) (nI g) = if fX5_wantedIn RC (nI x) (nI g) = 0 then (upd RA (iA a 1) 4, RI, RC) else (upd (upd RA (iA a 1) 1) (iA a 8) (nI g), upd RI (iI w 4) (RI (iI w 4) + 1), upd RC (iD x g 1) (RC (iD x g 1) + 1)) := by
  unfold fX5_noteInterview
  simp only [bd_1]
  rw [gA_0 ha, e, pA_1 ha, pA_1 ha, pA_8 ha, nI_4n hw, nC_1 hx hg]
theorem int_m {S : Nat → Int32} {w a x g : Nat} (hw : w < 5) (ha : a < 24) (hx : x < 4) (hg : g < 3) (e : S (iP a 0) = nI x) : fX9_interviews S (nI w) (nI a) (nI g) = if fX9_wanted S (nI x) (nI g) ≤ 0 then upd (upd S (iP a 1) 4) (iP a 8) 0 else upd (upd (upd (upd (upd S (iP a 1) 1) (iP a 8) (nI g)) (iC x g 1) (S (iC x g 1) + 1)) (iW w 4) (S (iW w 4) + 1)) 5 (S 5 + 1) := by
  unfold fX9_interviews
  simp only [bd_1]
  rw [oP_0 ha, e, tP_1 ha, tP_8 ha, tC_1 hx hg, tW_4 hw]
  have e1 : upd (upd S (iP a 1) 1) (iP a 8) (nI g) (iC x g 1) = S (iC x g 1) := by simp [u_PC hx hg]
  have e2 : upd (upd (upd S (iP a 1) 1) (iP a 8) (nI g)) (iC x g 1) (S (iC x g 1) + 1) (iW w 4) = S (iW w 4) := by simp [u_CW hx hg, u_PW hw]
  have e3 : upd (upd (upd (upd S (iP a 1) 1) (iP a 8) (nI g)) (iC x g 1) (S (iC x g 1) + 1)) (iW w 4) (S (iW w 4) + 1) 5 = S 5 := by simp [u_Wn, u_Cn, u_Pn]
  rw [e1, e2, e3]
theorem C5 {x g c : Nat} : iC x g c ≠ 5 := by unfold iC; omega
theorem W5 {x c : Nat} : iW x c ≠ 5 := by unfold iW; omega
/-- an interview wherever one is wanted -/
theorem rel_interview {B n k : Nat} {RA RI RC S : Nat → Int32} {dy vl db : Int32} (h : rel B n k RA RI RC dy vl db S) {w a g : Nat} (hw : w < 5) (ha : a < n) (hg : g < 3) (h6 : S (iP a 6) = 0) (h1 : S (iP a 1) = 0) : (fX5_noteInterview RA RI RC (nI w) (nI a) (nI g)).1 (iA a 1) = fX9_interviews S (nI w) (nI a) (nI g) (iP a 1) ∧ rel B n k (fX5_noteInterview RA RI RC (nI w) (nI a) (nI g)).1 (fX5_noteInterview RA RI RC (nI w) (nI a) (nI g)).2.1 (fX5_noteInterview RA RI RC (nI w) (nI a) (nI g)).2.2 dy vl db (fX9_interviews S (nI w) (nI a) (nI g)) := by
  obtain ⟨⟨⟨hn, hk⟩, -⟩, hr, -, -, -, -, hc, -⟩ := id h
  have ha' : a < 24 := by omega
  obtain ⟨x, hx, ex⟩ := rng_nI (hi := 3) (hr a ha).2.1 (by decide)
  have hx : x < 4 := by omega
  have eA : RA (iA a 0) = nI x := by rw [(hr a ha).1.1.1]; exact ex
  rw [int_c hw ha' hx hg eA, int_m hw ha' hx hg ex, want_eq hx hg (hc x hx g hg).1]
  by_cases c : fX9_wanted S (nI x) (nI g) ≤ 0
  · rw [if_pos c, if_pos (Int32.le_antisymm c want_nn)]
    dsimp only
    refine ⟨?_, rel_grp (rel_out h ha h6 (by rw [h1]; decide) (by decide)) ha (by rw [u_is]; decide)⟩
    rw [u_is, u_PP (by decide) (by decide), if_neg (by omega), u_is]
  · rw [if_neg c, if_neg (fun q => c (by rw [q]; exact Int32.le_refl 0))]
    dsimp only
    constructor
    · rw [u_AA (by decide) (by decide), if_neg (by omega), u_is, u_nP (by decide), u_WP hw (by decide), u_CP hx hg (by decide), u_PP (by decide) (by decide), if_neg (by omega), u_is]
    · have z := rel_int (g := nI g) h ha h6 h1
      have eC : upd (upd (upd S (iP a 1) 1) (iP a 8) (nI g)) 5 (S 5 + 1) (iC x g 1) = S (iC x g 1) := by simp [u_nC, u_PC hx hg]
      have z2 := rel_cell z hx hg (c := 1) (v := S (iC x g 1) + 1) (by decide) (by
        have hK := (hc x hx g hg).2
        have hp := want_pos hx hg hK c
        obtain ⟨q, d, p⟩ := hK
        have hi := ti_inc (x := S (iC x g 1)) (B := 20) d (by decide)
        unfold ceK
        rw [u_is, u_CC hg hg (by decide) (by decide), if_neg (by omega), u_CC hg hg (by decide) (by decide), if_neg (by omega), u_nC (n := 5) (by decide), u_nC (n := 5) (by decide), u_PC hx hg (by decide), u_PC hx hg (by decide), u_PC hx hg (by decide), u_PC hx hg (by decide)]
        exact ⟨q, ⟨by rw [hi]; have := d.1; omega, by rw [hi]; omega⟩, p⟩)
      have z3 := rel_took z2 hw
      have eW : upd (upd (upd (upd S (iP a 1) 1) (iP a 8) (nI g)) 5 (S 5 + 1)) (iC x g 1) (S (iC x g 1) + 1) (iW w 4) = S (iW w 4) := by simp [u_CW hx hg, u_nW, u_PW hw]
      rw [eW] at z3
      rw [upd_c (i := 5) (j := iC x g 1) (fun q => C5 q.symm), upd_c (i := 5) (j := iW w 4) (fun q => W5 q.symm)] at z3
      rw [(hc x hx g hg).1 1 (by decide)]
      exact z3
theorem what_of {what : Int32} (h : fX9_in what 0 4 = true) (h0 : ¬ what = 0) (h1 : ¬ what = 1) : ∃ g, g < 3 ∧ what - 2 = nI g := by
  have z := in_rng h
  have e0 : (0 : Int32).toInt = 0 := by decide
  have e4 : (4 : Int32).toInt = 4 := by decide
  rw [e0, e4] at z
  obtain ⟨j, hj, rfl⟩ := nI_of_rng (v := what) (n := 5) (by decide) z.1 (by omega)
  have n0 : ¬ j = 0 := fun e => h0 (by rw [e]; rfl)
  have n1 : ¬ j = 1 := fun e => h1 (by rw [e]; rfl)
  have : ∀ j : Nat, j < 5 → ¬ j = 0 → ¬ j = 1 → nI j - 2 = nI (j - 2) := by decide +kernel
  exact ⟨j - 2, by omega, this j hj n0 n1⟩
theorem sim_call {B n k : Nat} {RA RI RC S : Nat → Int32} {dy vl db : Int32} (h : rel B n k RA RI RC dy vl db S) (hB : B < 2 ^ 31 - 3) (who adr time what : Int32) : (fX5_makeCall RA RI RC (nI n) (nI k) dy vl db who adr time what).1 = (fX9_calls S who adr time what).1 ∧ relT (B + 2) (fX5_makeCall RA RI RC (nI n) (nI k) dy vl db who adr time what).2.1 (fX5_makeCall RA RI RC (nI n) (nI k) dy vl db who adr time what).2.2.1 (fX5_makeCall RA RI RC (nI n) (nI k) dy vl db who adr time what).2.2.2 (nI n) (nI k) dy vl db (fX9_calls S who adr time what).2 := by
  have same : relT (B + 2) RA RI RC (nI n) (nI k) dy vl db S := ⟨n, k, rfl, rfl, rel_le h (by omega)⟩
  obtain ⟨⟨⟨hn, hk⟩, ⟨s0, s1, s2, s6, s7⟩, hdv⟩, hr, he, hi, hik, hz2, hc, hs⟩ := id h
  unfold fX5_makeCall fX9_calls
  rw [in_eq, asked_eq s0 s1]
  simp only [bd_1]
  by_cases c1 : fX9_isAsked S who adr time = true
  · rw [if_pos c1, if_pos c1]
    by_cases c2 : fX9_in what 0 4 = true
    · rw [if_pos c2, if_pos c2]
      obtain ⟨w, a, hw, ha, rfl, rfl, c3⟩ := asked_idx hn hk s0 s1 c1
      have hw5 : w < 5 := by omega
      have ha' : a < 24 := by omega
      rw [may_eq (vl := vl) (n := n) (k := k) hw5 ha' (by omega) (hr a ha).1 (hr a ha).2 (hi w hw5) s2 s7]
      by_cases c4 : fX9_mayCall S (nI w) (nI a) time = true
      · rw [if_pos c4, if_pos c4]
        have c4' := c4
        unfold fX9_mayCall at c4'
        simp only [bd_1] at c4'
        have hop : fX9_isOpen S (nI a) = true := Classical.byContradiction fun q => by rw [if_neg q] at c4'; cases c4'
        rw [if_pos hop, oW_2 hw5, oW_1 hw5] at c4'
        have hm : S (iW w 2) < S (iW w 1) := Classical.byContradiction fun q => by rw [if_neg q] at c4'; cases c4'
        have o0 : S (iP a 1) = 0 := Classical.byContradiction fun q => by
          unfold fX9_isOpen at hop
          simp only [bd_1] at hop
          rw [oP_1 ha', if_neg q] at hop
          cases hop
        have R := rel_counts (time := time) h hw ha (by omega) hm
        have x1 : cntS S w a time (iP a 1) = 0 := by
          unfold cntS
          rw [u_nP (by decide), u_WP hw5 (by decide), u_WP hw5 (by decide), u_WP hw5 (by decide), u_PP (by decide) (by decide), if_neg (by omega), u_PP (by decide) (by decide), if_neg (by omega), u_PP (by decide) (by decide), if_neg (by omega), u_PP (by decide) (by decide), if_neg (by omega), u_PP (by decide) (by decide), if_neg (by omega)]
          exact o0
        have x6 : cntS S w a time (iP a 6) = 0 := by
          unfold cntS
          rw [u_nP (by decide), u_WP hw5 (by decide), u_WP hw5 (by decide), u_WP hw5 (by decide), u_PP (by decide) (by decide), if_neg (by omega), u_is]
        rw [counts_c hw5 ha', counts_m hw5 ha', bd_2]
        generalize cntA RA a dy time (nI w) = RA1 at R ⊢
        generalize cntI RI w (RA (iA a 0)) = RI1 at R ⊢
        generalize cntS S w a time = S1 at R x1 x6 ⊢
        have rr := (R.2.1 a ha).1
        have hs6 : S1 6 = vl := R.1.2.1.2.2.2.1
        by_cases d0 : what = 0
        · rw [if_pos d0, if_pos d0]
          have V := rel_vain R ha (by omega)
          rw [vain_c ha', tP_3 ha', tP_1 ha', gA_1 ha']
          have e3 : upd (upd S1 (iP a 3) (S1 (iP a 3) + 1)) 4 (upd S1 (iP a 3) (S1 (iP a 3) + 1) 4 + 1) = upd (upd S1 (iP a 3) (S1 (iP a 3) + 1)) 4 (S1 4 + 1) := by rw [u_Pn (by decide)]
          rw [e3]
          have e4 : upd (upd S1 (iP a 3) (S1 (iP a 3) + 1)) 4 (S1 4 + 1) (iP a 3) = S1 (iP a 3) + 1 := by rw [u_nP (by decide), u_is]
          have e5 : upd (upd S1 (iP a 3) (S1 (iP a 3) + 1)) 4 (S1 4 + 1) 6 = vl := by rw [u_m (by decide), if_neg (by decide), u_Pn (by decide), hs6]
          have e6 : upd (upd S1 (iP a 3) (S1 (iP a 3) + 1)) 4 (S1 4 + 1) (iP a 1) = 0 := by rw [u_nP (by decide), u_PP (by decide) (by decide), if_neg (by omega), x1]
          have e7 : upd (upd S1 (iP a 3) (S1 (iP a 3) + 1)) 4 (S1 4 + 1) (iP a 6) = 0 := by rw [u_nP (by decide), u_PP (by decide) (by decide), if_neg (by omega), x6]
          have e8 : RA1 (iA a 3) = S1 (iP a 3) := rr.1.2.2.2
          rw [e4, e5, e8]
          rw [e8] at V
          by_cases d1 : S1 (iP a 3) + 1 < vl
          · rw [if_pos d1, if_pos d1]
            dsimp only
            rw [upd_id e6]
            exact ⟨by rw [u_AA (by decide) (by decide), if_neg (by omega), e6]; rw [rr.1.2.1]; exact x1, n, k, rfl, rfl, V⟩
          · rw [if_neg d1, if_neg d1]
            dsimp only
            exact ⟨by rw [u_is, u_is], n, k, rfl, rfl, rel_out V ha e7 (by rw [e6]; decide) (by decide)⟩
        · rw [if_neg d0, if_neg d0]
          by_cases d1 : what = 1
          · rw [if_pos d1, if_pos d1, pA_1 ha', gA_1 ha', tP_1 ha']
            dsimp only
            exact ⟨by rw [u_is, u_is], n, k, rfl, rfl, rel_le (rel_out R ha x6 (by rw [x1]; decide) (by decide)) (by omega)⟩
          · rw [if_neg d1, if_neg d1]
            obtain ⟨g, hg, eg⟩ := what_of c2 d0 d1
            rw [eg, bd_3p, gA_1 ha', tP_1 ha']
            have Z := rel_interview R hw5 ha hg x6 x1
            dsimp only
            exact ⟨Z.1, n, k, rfl, rfl, rel_le Z.2 (by omega)⟩
      · rw [if_neg c4, if_neg c4]
        exact ⟨rfl, same⟩
    · rw [if_neg c2, if_neg c2]
      exact ⟨rfl, same⟩
  · rw [if_neg c1, if_neg c1]
    exact ⟨rfl, same⟩
