/-! people of a cell: the reference's own core -/
def popM (S : Nat → Int32) (area group people : Int32) : Int32 × (Nat → Int32) := if fX9_isCell area group = true then (if fX9_in people 0 9999 = true then fX9_puts S area group 2 people else (-1, S)) else (-1, S)
theorem sim_population {B n k : Nat} {RA RI RC S : Nat → Int32} {dy vl db : Int32} (h : rel B n k RA RI RC dy vl db S) (area group people : Int32) : (fX5_changePopulation RC area group people).1 = (popM S area group people).1 ∧ relT B RA RI (fX5_changePopulation RC area group people).2 (nI n) (nI k) dy vl db (popM S area group people).2 := by
  have same : relT B RA RI RC (nI n) (nI k) dy vl db S := ⟨n, k, rfl, rfl, h⟩
  have hc := h.2.2.2.2.2.2.1
  unfold fX5_changePopulation popM
  rw [in_eq, cell_eq]
  simp only [bd_1]
  by_cases c1 : fX9_isCell area group = true
  · rw [if_pos c1, if_pos c1]
    by_cases c2 : fX9_in people 0 9999 = true
    · rw [if_pos c2, if_pos c2]
      obtain ⟨x, g, hx, hg, rfl, rfl⟩ := cell_idx c1
      rw [(change_c hx hg).2, (puts_m hx hg).2, bd_2]
      refine ⟨(hc x hx g hg).1 2 (by decide), n, k, rfl, rfl, rel_cell h hx hg (by decide) ?_⟩
      have m20 := in_rng c2
      have z := (hc x hx g hg).2
      unfold ceK
      rw [u_is, u_CC hg hg (by decide) (by decide), if_neg (fun q => by omega), u_CC hg hg (by decide) (by decide), if_neg (fun q => by omega)]
      exact ⟨z.1, z.2.1, m20⟩
    · rw [if_neg c2, if_neg c2]
      exact ⟨rfl, same⟩
  · rw [if_neg c1, if_neg c1]
    exact ⟨rfl, same⟩
/-! settings -/
theorem rel_head {B n k : Nat} {RA RI RC S S' : Nat → Int32} {dy vl db dy' vl' db' : Int32} (h : rel B n k RA RI RC dy vl db S) (hh : heads S' n k dy' vl' db') (fP : ∀ a c, S' (iP a c) = S (iP a c)) (fW : ∀ a c, S' (iW a c) = S (iW a c)) (fC : ∀ x g c, S' (iC x g c) = S (iC x g c)) (h3 : S' 3 = S 3) (h4 : S' 4 = S 4) (h5 : S' 5 = S 5) : rel B n k RA RI RC dy' vl' db' S' := by
  obtain ⟨-, hr, he, hi, hik, hz2, hc, hs⟩ := h
  refine ⟨hh, fun a ha => ?_, fun a h1 h2 => ?_, fun i h1 => ?_, fun i h1 => ?_, fun i h1 h2 => ?_, fun y hy f hf => ?_, ?_⟩
  · exact ⟨rowR_fr (hr a ha).1 (fun _ _ => rfl) (fun c _ => fP a c), rowK_fr (hr a ha).2 (fun c _ => fP a c)⟩
  · exact rowE_fr (he a h1 h2) (fun _ _ => rfl) (fun c _ => fP a c)
  · exact stR_fr (hi i h1) (fun _ _ => rfl) (fun c _ => fW i c)
  · exact stK_fr (hik i h1) (fun c _ => fW i c)
  · rw [fW]; exact hz2 i h1 h2
  · exact ⟨ceR_fr (hc y hy f hf).1 (fun _ _ => rfl) (fun c _ => fC y f c), ceK_fr (hc y hy f hf).2 (fun c _ => fC y f c)⟩
  · exact sums_fr hs h3 h4 h5 (fun a _ c _ => fP a c)
theorem set_c {vl db what value : Int32} : fX5_changeSetting vl db what value = if what = 0 then (if fX9_in value 1 9 = true then (vl, value, db) else (-1, vl, db)) else if what = 1 then (if fX9_in value 0 9 = true then (db, vl, value) else (-1, vl, db)) else (-1, vl, db) := by
  unfold fX5_changeSetting
  rw [in_eq]
  simp only [bd_1]
  by_cases c0 : what = 0
  · rw [if_pos c0, if_pos c0, if_neg (show ¬ what = 1 by rw [c0]; decide)]
  · rw [if_neg c0, if_neg c0]
theorem set_m {S : Nat → Int32} {what value : Int32} : fX9_sets S what value = if what = 0 then (if fX9_in value 1 9 = true then (S 6, upd S 6 value) else (-1, S)) else if what = 1 then (if fX9_in value 0 9 = true then (S 7, upd S 7 value) else (-1, S)) else (-1, S) := by
  unfold fX9_sets
  simp only [bd_1]
  by_cases c0 : what = 0
  · subst c0
    rw [if_pos (show fX9_in 0 0 1 = true by decide), if_pos rfl, if_pos rfl, show ((6 : Int32) + 0).toNatClampNeg = 6 from by decide]
  · rw [if_neg c0]
    by_cases c1 : what = 1
    · subst c1
      rw [if_pos (show fX9_in 1 0 1 = true by decide), if_neg c0, if_pos rfl, show ((6 : Int32) + 1).toNatClampNeg = 7 from by decide]
    · have hne : ¬ fX9_in what 0 1 = true := fun q => by
        have g := in_rng q
        have e0 : (0 : Int32).toInt = 0 := by decide
        have e1 : (1 : Int32).toInt = 1 := by decide
        have h0 : ¬ what.toInt = 0 := fun e => c0 (Int32.toInt_inj.mp (by rw [e, e0]))
        have h1 : ¬ what.toInt = 1 := fun e => c1 (Int32.toInt_inj.mp (by rw [e, e1]))
        omega
      rw [if_neg c1, if_neg hne, if_neg c0]
theorem sim_set {B n k : Nat} {RA RI RC S : Nat → Int32} {dy vl db : Int32} (h : rel B n k RA RI RC dy vl db S) (what value : Int32) : (fX5_changeSetting vl db what value).1 = (fX9_sets S what value).1 ∧ relT B RA RI RC (nI n) (nI k) dy (fX5_changeSetting vl db what value).2.1 (fX5_changeSetting vl db what value).2.2 (fX9_sets S what value).2 := by
  have same : relT B RA RI RC (nI n) (nI k) dy vl db S := ⟨n, k, rfl, rfl, h⟩
  obtain ⟨⟨hn, hk⟩, ⟨s0, s1, s2, s6, s7⟩, hdy, hvl, hdb⟩ := h.1
  have e0 : (0 : Int32).toInt = 0 := by decide
  have e1 : (1 : Int32).toInt = 1 := by decide
  have e9 : (9 : Int32).toInt = 9 := by decide
  rw [set_c, set_m]
  by_cases c0 : what = 0
  · rw [if_pos c0, if_pos c0]
    by_cases c2 : fX9_in value 1 9 = true
    · rw [if_pos c2, if_pos c2]
      have g := in_rng c2
      rw [e1, e9] at g
      dsimp only
      exact ⟨s6.symm, n, k, rfl, rfl, rel_head h ⟨⟨hn, hk⟩, ⟨s0, s1, s2, u_is, s7⟩, hdy, g, hdb⟩ (fun _ _ => u_nP (by decide)) (fun _ _ => u_nW (by decide)) (fun _ _ _ => u_nC (by decide)) rfl rfl rfl⟩
    · rw [if_neg c2, if_neg c2]; exact ⟨rfl, same⟩
  · rw [if_neg c0, if_neg c0]
    by_cases c1 : what = 1
    · rw [if_pos c1, if_pos c1]
      by_cases c2 : fX9_in value 0 9 = true
      · rw [if_pos c2, if_pos c2]
        have g := in_rng c2
        rw [e0, e9] at g
        dsimp only
        exact ⟨s7.symm, n, k, rfl, rfl, rel_head h ⟨⟨hn, hk⟩, ⟨s0, s1, s2, s6, u_is⟩, hdy, hvl, g⟩ (fun _ _ => u_nP (by decide)) (fun _ _ => u_nW (by decide)) (fun _ _ _ => u_nC (by decide)) rfl rfl rfl⟩
      · rw [if_neg c2, if_neg c2]; exact ⟨rfl, same⟩
    · rw [if_neg c1, if_neg c1]; exact ⟨rfl, same⟩
/-! days that pass -/
theorem fuel_eq {n : Nat} (hn : n < 2 ^ 31) : ((nI n).toInt - (0 : Int32).toInt).toNat + 1 = n + 1 := by
  have e0 : (0 : Int32).toInt = 0 := by decide
  rw [nI_toInt hn, e0]
  omega
/-- the staff's day begins anew, from a place on -/
def freshI (RI : Nat → Int32) (i m : Nat) : Nat → Int32 := match m with
  | 0 => RI
  | m + 1 => freshI (upd RI (iI i 2) 0) (i + 1) m
def freshW (S : Nat → Int32) (i m : Nat) : Nat → Int32 := match m with
  | 0 => S
  | m + 1 => freshW (upd S (iW i 2) 0) (i + 1) m
theorem pass_c {RI : Nat → Int32} {k : Nat} {dy days : Int32} (hk : k ≤ 5) : ∀ (m i : Nat) (Q : Nat → Int32), i + m = k → fX5_passDays_39 RI (nI k) dy days (m + 1) (nI i) Q = (dy + days, freshI Q i m, dy + days) := by
  intro m
  induction m with
  | zero =>
    intro i Q h
    rw [fX5_passDays_39_s, if_pos (show nI k ≤ nI i from nI_le (by omega) (by omega))]
    rfl
  | succ m ih =>
    intro i Q h
    rw [fX5_passDays_39_s, if_neg (show ¬ nI k ≤ nI i from nI_ge (by omega) (by omega)), bd1_e (pI_2 (by omega)), nI_1, ih (i + 1) _ (by omega)]
    rfl
theorem pass_m {S : Nat → Int32} {k : Nat} {days : Int32} (hk : k ≤ 5) : ∀ (m i : Nat) (Q : Nat → Int32), i + m = k → Q 1 = nI k → fX9_passes_41 S days (m + 1) (nI i) Q = (Q 2, freshW Q i m) := by
  intro m
  induction m with
  | zero =>
    intro i Q h hq
    rw [fX9_passes_41_s, hq, if_pos (show nI k ≤ nI i from nI_le (by omega) (by omega))]
    rfl
  | succ m ih =>
    intro i Q h hq
    rw [fX9_passes_41_s, hq, if_neg (show ¬ nI k ≤ nI i from nI_ge (by omega) (by omega)), nI_1, tW_2 (by omega), ih (i + 1) _ (by omega) (by rw [u_Wn (by decide)]; exact hq), u_Wn (by decide)]
    rfl
theorem freshW_n {j : Nat} (hj : j < 8) : ∀ (m i : Nat) (S : Nat → Int32), freshW S i m j = S j := by
  intro m
  induction m with
  | zero => intro i S; rfl
  | succ m ih => intro i S; show freshW (upd S (iW i 2) 0) (i + 1) m j = _; rw [ih, u_Wn hj]
theorem freshW_P {a c : Nat} : ∀ (m i : Nat) (S : Nat → Int32), i + m ≤ 5 → freshW S i m (iP a c) = S (iP a c) := by
  intro m
  induction m with
  | zero => intro i S _; rfl
  | succ m ih => intro i S h; show freshW (upd S (iW i 2) 0) (i + 1) m (iP a c) = _; rw [ih _ _ (by omega), u_WP (by omega) (by decide)]
theorem freshW_C {x g c : Nat} (hx : x < 4) (hg : g < 3) (hc : c < 3) : ∀ (m i : Nat) (S : Nat → Int32), freshW S i m (iC x g c) = S (iC x g c) := by
  intro m
  induction m with
  | zero => intro i S; rfl
  | succ m ih => intro i S; show freshW (upd S (iW i 2) 0) (i + 1) m (iC x g c) = _; rw [ih, u_WC hx hg hc]
theorem freshW_W {b c : Nat} (hc : c < 6) : ∀ (m i : Nat) (S : Nat → Int32), freshW S i m (iW b c) = if (i ≤ b ∧ b < i + m) ∧ c = 2 then 0 else S (iW b c) := by
  intro m
  induction m with
  | zero => intro i S; rw [if_neg (fun q => by omega)]; rfl
  | succ m ih =>
    intro i S
    show freshW (upd S (iW i 2) 0) (i + 1) m (iW b c) = _
    rw [ih, u_WW hc (by decide)]
    by_cases h1 : (i + 1 ≤ b ∧ b < i + 1 + m) ∧ c = 2
    · rw [if_pos h1, if_pos (by omega)]
    · rw [if_neg h1]
      by_cases h2 : b = i ∧ c = 2
      · rw [if_pos h2, if_pos (by omega)]
      · rw [if_neg h2, if_neg (by omega)]
theorem freshI_I {b c : Nat} (hc : c < 6) : ∀ (m i : Nat) (S : Nat → Int32), freshI S i m (iI b c) = if (i ≤ b ∧ b < i + m) ∧ c = 2 then 0 else S (iI b c) := by
  intro m
  induction m with
  | zero => intro i S; rw [if_neg (fun q => by omega)]; rfl
  | succ m ih =>
    intro i S
    show freshI (upd S (iI i 2) 0) (i + 1) m (iI b c) = _
    rw [ih, u_II hc (by decide)]
    by_cases h1 : (i + 1 ≤ b ∧ b < i + 1 + m) ∧ c = 2
    · rw [if_pos h1, if_pos (by omega)]
    · rw [if_neg h1]
      by_cases h2 : b = i ∧ c = 2
      · rw [if_pos h2, if_pos (by omega)]
      · rw [if_neg h2, if_neg (by omega)]
theorem sim_pass {B n k : Nat} {RA RI RC S : Nat → Int32} {dy vl db : Int32} (h : rel B n k RA RI RC dy vl db S) (days : Int32) : (fX5_passDays RI (nI k) dy days).1 = (fX9_passes S days).1 ∧ relT B RA (fX5_passDays RI (nI k) dy days).2.1 RC (nI n) (nI k) (fX5_passDays RI (nI k) dy days).2.2 vl db (fX9_passes S days).2 := by
  have same : relT B RA RI RC (nI n) (nI k) dy vl db S := ⟨n, k, rfl, rfl, h⟩
  obtain ⟨⟨⟨hn, hk⟩, ⟨s0, s1, s2, s6, s7⟩, hdy, hvl, hdb⟩, hr, he, hi, hik, hz2, hc, hs⟩ := id h
  unfold fX5_passDays fX9_passes
  rw [in_eq]
  simp only [bd_1]
  by_cases c1 : fX9_in days 1 99 = true
  · rw [if_pos c1, if_pos c1, s2, s1, fuel_eq (by omega)]
    by_cases c2 : dy + days ≤ 999
    · rw [if_pos c2, if_pos c2]
      have e := pass_c (RI := RI) (dy := dy) (days := days) hk k 0 RI (by omega)
      have e' := pass_m (S := S) (days := days) hk k 0 (upd S 2 (dy + days)) (by omega) (by rw [u_n, if_neg (by decide)]; exact s1)
      rw [nI_0] at e e'
      rw [e, e', u_is]
      dsimp only
      have fn : ∀ j, j < 8 → ¬ j = 2 → freshW (upd S 2 (dy + days)) 0 k j = S j := fun j h1 h2 => by rw [freshW_n h1, u_n, if_neg h2]
      have fP : ∀ a c, freshW (upd S 2 (dy + days)) 0 k (iP a c) = S (iP a c) := fun a c => by rw [freshW_P _ _ _ (by omega), u_nP (by decide)]
      have fW : ∀ b c, c < 6 → freshW (upd S 2 (dy + days)) 0 k (iW b c) = if b < k ∧ c = 2 then 0 else S (iW b c) := fun b c hc6 => by
        rw [freshW_W hc6, u_nW (by decide)]
        by_cases q : b < k ∧ c = 2
        · rw [if_pos q, if_pos (by omega)]
        · rw [if_neg q, if_neg (by omega)]
      have fI : ∀ b c, c < 6 → freshI RI 0 k (iI b c) = if b < k ∧ c = 2 then 0 else RI (iI b c) := fun b c hc6 => by
        rw [freshI_I hc6]
        by_cases q : b < k ∧ c = 2
        · rw [if_pos q, if_pos (by omega)]
        · rw [if_neg q, if_neg (by omega)]
      have g := in_rng c1
      have e0 : (0 : Int32).toInt = 0 := by decide
      have e1 : (1 : Int32).toInt = 1 := by decide
      have e99 : (99 : Int32).toInt = 99 := by decide
      have e999 : (999 : Int32).toInt = 999 := by decide
      have c2' := Int32.le_iff_toInt_le.mp c2
      have ed : (dy + days).toInt = dy.toInt + days.toInt := by
        have := hdy.1
        have := hdy.2
        rw [Int32.toInt_add]
        apply Int.bmod_eq_of_le <;> omega
      have hdy' : rng (dy + days) 0 999 := ⟨by have := hdy.1; omega, by omega⟩
      refine ⟨rfl, n, k, rfl, rfl, ⟨⟨hn, hk⟩, ⟨?_, ?_, ?_, ?_, ?_⟩, hdy', hvl, hdb⟩, fun a ha => ?_, fun a h1 h2 => ?_, fun i h1 => ?_, fun i h1 => ?_, fun i h1 h2 => ?_, fun x hx g hg => ?_, ?_⟩
      · rw [fn 0 (by decide) (by decide)]; exact s0
      · rw [fn 1 (by decide) (by decide)]; exact s1
      · rw [freshW_n (by decide), u_is]
      · rw [fn 6 (by decide) (by decide)]; exact s6
      · rw [fn 7 (by decide) (by decide)]; exact s7
      · exact ⟨rowR_fr (hr a ha).1 (fun _ _ => rfl) (fun c _ => fP a c), rowK_fr (hr a ha).2 (fun c _ => fP a c)⟩
      · exact rowE_fr (he a h1 h2) (fun _ _ => rfl) (fun c _ => fP a c)
      · intro c hc6
        rw [fW i c hc6, fI i c hc6, hi i h1 c hc6]
      · obtain ⟨g1, g2, g3, g4⟩ := hik i h1
        unfold stK
        rw [fW i 0 (by decide), if_neg (by omega), fW i 1 (by decide), if_neg (by omega), fW i 2 (by decide), if_pos ⟨h1, rfl⟩]
        exact ⟨g1, g2, by omega, by have := g2.1; omega⟩
      · rw [fW i 2 (by decide), if_neg (by omega)]; exact hz2 i h1 h2
      · have f : ∀ c, c < 3 → freshW (upd S 2 (dy + days)) 0 k (iC x g c) = S (iC x g c) := fun c hc3 => by rw [freshW_C hx hg hc3, u_nC (by decide)]
        exact ⟨ceR_fr (hc x hx g hg).1 (fun _ _ => rfl) f, ceK_fr (hc x hx g hg).2 f⟩
      · exact sums_fr hs (fn 3 (by decide) (by decide)) (fn 4 (by decide) (by decide)) (fn 5 (by decide) (by decide)) (fun a _ c _ => fP a c)
    · rw [if_neg c2, if_neg c2]
      exact ⟨rfl, same⟩
  · rw [if_neg c1, if_neg c1]
    exact ⟨rfl, same⟩
