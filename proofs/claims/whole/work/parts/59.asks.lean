/-! what is asked: addresses, interviewers, sets, counts -/
theorem lits {n : Nat} {v : Int32} {hi : Int32} (hh : hi = nI n) (hn : n < 2 ^ 31 - 1) (h : fX9_in v 0 hi = true) : ∃ c, c ≤ n ∧ v = nI c := by
  have z := in_rng h
  have e0 : (0 : Int32).toInt = 0 := by decide
  rw [e0, hh, nI_toInt (by omega)] at z
  obtain ⟨c, hc, e⟩ := nI_of_rng (v := v) (n := n + 1) (by omega) z.1 (by omega)
  exact ⟨c, by omega, e⟩
theorem pos_of {x : Int32} {hi : Int} (h : rng x 0 hi) (h0 : ¬ x = 0) : (0 : Int32) < x := Int32.not_le.mp (rng0 h h0)
theorem fixed_if {RA S : Nat → Int32} {a B : Nat} (ha : a < 24) (hK : rowK S B a) : fX9_isFixed S (nI a) = if S (iP a 6) = 0 then false else true := by
  obtain ⟨k0, k1, k6, k2, k3⟩ := hK
  unfold fX9_isFixed fX9_isOpen
  simp only [bd_1]
  rw [oP_1 ha, oP_6 ha]
  by_cases c6 : S (iP a 6) = 0
  · rw [if_pos c6, c6]
    by_cases c1 : S (iP a 1) = 0
    · rw [if_pos c1]; decide
    · rw [if_neg c1]; decide
  · have c1 : S (iP a 1) = 0 := Classical.byContradiction fun q => c6 (k1 q)
    rw [if_neg c6, if_pos c1, if_pos rfl, if_neg (rng0 k6 c6)]
theorem sim_addressOf {B n k : Nat} {RA RI RC S : Nat → Int32} {dy vl db : Int32} (h : rel B n k RA RI RC dy vl db S) (adr what : Int32) : fX8_addressOf RA (nI n) adr what = fX9_addressOf S adr what := by
  obtain ⟨⟨⟨hn, hk⟩, ⟨s0, s1, s2, s6, s7⟩, hdv⟩, hr, -⟩ := id h
  unfold fX8_addressOf fX9_addressOf fX5_hasAddress fX9_isAddress
  rw [in_eq]
  simp only [bd_1]
  rw [s0]
  by_cases c1 : fX9_in adr 0 (nI n - 1) = true
  · rw [if_pos c1, if_pos c1]
    by_cases c2 : fX9_in what 0 9 = true
    · rw [if_pos c2, if_pos c2]
      obtain ⟨a, ha, rfl⟩ := idx_of hn c1
      have ha' : a < 24 := by omega
      have hF := fixed_if (RA := RA) ha' (hr a ha).2
      obtain ⟨⟨⟨r0, r1, r2, r3⟩, ⟨r4, r5, r9⟩, ⟨r6, r7⟩, r8⟩, ⟨k0, k1, k6, k2, k3⟩⟩ := hr a ha
      rw [hF]
      have p2 : ¬ S (iP a 2) = 0 → (0 : Int32) < S (iP a 2) := pos_of k2
      obtain ⟨c, hc, rfl⟩ := lits (n := 9) rfl (by decide) c2
      unfold fX5_ofAddress
      simp only [bd_1]
      have hc10 : c = 0 ∨ c = 1 ∨ c = 2 ∨ c = 3 ∨ c = 4 ∨ c = 5 ∨ c = 6 ∨ c = 7 ∨ c = 8 ∨ c = 9 := by omega
      rcases hc10 with rfl | rfl | rfl | rfl | rfl | rfl | rfl | rfl | rfl | rfl
      · rw [show nI 0 = (0 : Int32) from rfl, gA_0 ha', r0]
        simp (decide := true) [bd_1, fX9_addressOf_91, oP_0 ha']
      · rw [show nI 1 = (1 : Int32) from rfl, gA_1 ha', r1]
        simp (decide := true) [bd_1, fX9_addressOf_91, oP_1 ha']
      · rw [show nI 2 = (2 : Int32) from rfl, gA_2 ha', r2]
        simp (decide := true) [bd_1, fX9_addressOf_91, oP_2 ha']
      · rw [show nI 3 = (3 : Int32) from rfl, gA_3 ha', r3]
        simp (decide := true) [bd_1, fX9_addressOf_91, oP_3 ha']
      · rw [show nI 4 = (4 : Int32) from rfl, gA_4 ha', r4]
        by_cases z : S (iP a 2) = 0
        · simp (decide := true) [bd_1, fX9_addressOf_91, oP_1 ha', oP_2 ha', oP_4 ha', z]
        · have z2 := p2 z
          simp (decide := true) [bd_1, fX9_addressOf_91, oP_1 ha', oP_2 ha', oP_4 ha', z, z2]
      · rw [show nI 5 = (5 : Int32) from rfl, gA_5 ha', r5]
        by_cases z : S (iP a 2) = 0
        · simp (decide := true) [bd_1, fX9_addressOf_91, oP_1 ha', oP_2 ha', oP_5 ha', z]
        · have z2 := p2 z
          simp (decide := true) [bd_1, fX9_addressOf_91, oP_1 ha', oP_2 ha', oP_5 ha', z, z2]
      · rw [show nI 6 = (6 : Int32) from rfl, gA_6 ha', r6]
        by_cases z : S (iP a 6) = 0
        · simp (decide := true) [bd_1, fX9_addressOf_91, oP_1 ha', oP_2 ha', oP_6 ha', z]
        · simp (decide := true) [bd_1, fX9_addressOf_91, oP_1 ha', oP_2 ha', oP_6 ha', z]
      · rw [show nI 7 = (7 : Int32) from rfl, gA_7 ha', r7]
        by_cases z : S (iP a 6) = 0
        · simp (decide := true) [bd_1, fX9_addressOf_91, oP_1 ha', oP_2 ha', oP_7 ha', z]
        · simp (decide := true) [bd_1, fX9_addressOf_91, oP_1 ha', oP_2 ha', oP_7 ha', z]
      · rw [show nI 8 = (8 : Int32) from rfl, gA_8 ha', r8]
        by_cases z : S (iP a 1) = 1
        · simp (decide := true) [bd_1, fX9_addressOf_91, oP_1 ha', oP_2 ha', oP_8 ha', z]
        · simp (decide := true) [bd_1, fX9_addressOf_91, oP_1 ha', oP_2 ha', oP_8 ha', z]
      · rw [show nI 9 = (9 : Int32) from rfl, gA_9 ha', r9]
        by_cases z : S (iP a 2) = 0
        · simp (decide := true) [bd_1, fX9_addressOf_91, oP_1 ha', oP_2 ha', oP_9 ha', z]
        · have z2 := p2 z
          simp (decide := true) [bd_1, fX9_addressOf_91, oP_1 ha', oP_2 ha', oP_9 ha', z, z2]
    · rw [if_neg c2, if_neg c2]
  · rw [if_neg c1, if_neg c1]
theorem sim_interviewerOf {B n k : Nat} {RA RI RC S : Nat → Int32} {dy vl db : Int32} (h : rel B n k RA RI RC dy vl db S) (who what : Int32) : fX8_interviewerOf RI (nI k) who what = fX9_interviewerOf S who what := by
  obtain ⟨⟨⟨hn, hk⟩, ⟨s0, s1, s2, s6, s7⟩, hdv⟩, hr, he, hi, -⟩ := id h
  unfold fX8_interviewerOf fX9_interviewerOf fX5_hasInterviewer fX9_isStaff fX5_ofInterviewer fX9_ofWho
  rw [in_eq]
  simp only [bd_1]
  rw [s1]
  by_cases c1 : fX9_in who 0 (nI k - 1) = true
  · rw [if_pos c1, if_pos c1]
    by_cases c2 : fX9_in what 0 5 = true
    · rw [if_pos c2, if_pos c2]
      obtain ⟨i, hi', rfl⟩ := idx_of (by omega) c1
      obtain ⟨c, hc, rfl⟩ := lits (n := 5) rfl (by decide) c2
      have e1 : fX6_get 30 RI 6 (nI i) (nI c) = RI (iI i c) := get_at (eI (c := c)) (lI (by omega) (by omega)) (by decide)
      have e2 : (44 + 6 * nI i + nI c).toNatClampNeg = iW i c := eW (by omega) (by omega)
      rw [e1, e2]
      exact hi i (by omega) c (by omega)
    · rw [if_neg c2, if_neg c2]
  · rw [if_neg c1, if_neg c1]
theorem kind_eq {RA S : Nat → Int32} {dy what : Int32} {a B : Nat} (ha : a < 24) (h : rowR RA S a) (hK : rowK S B a) (s2 : S 2 = dy) : fX2_isOfKind RA dy (nI a) what = fX9_isOf S (nI a) what := by
  have ho := open_eq ha h
  have hf := fixed_eq ha h hK
  have hv := over_eq ha h hK s2
  have h1 : RA (iA a 1) = S (iP a 1) := h.1.2.1
  have h2 : RA (iA a 2) = S (iP a 2) := h.1.2.2.1
  unfold fX2_isOfKind fX9_isOf fX5_ofAddress
  simp only [bd_1]
  rw [ho, hf, hv, gA_1 ha, gA_2 ha, oP_1 ha, oP_2 ha, h1, h2]
  have fo : ¬ fX9_isOpen S (nI a) = true → fX9_isFixed S (nI a) = false := fixed_open
  have fv : ¬ fX9_isOpen S (nI a) = true → fX9_isOver S (nI a) = false := fun q => by
    unfold fX9_isOver
    simp only [bd_1]
    rw [fo q]
    rfl
  have eo : fX9_isOpen S (nI a) = if S (iP a 1) = 0 then true else false := by
    unfold fX9_isOpen
    simp only [bd_1]
    rw [oP_1 ha]
  by_cases w5 : what = 5
  · subst w5
    by_cases q : fX9_isOpen S (nI a) = true
    · simp (decide := true) [q]
    · simp (decide := true) [q, fo q]
  · by_cases w6 : what = 6
    · subst w6
      by_cases q : fX9_isOpen S (nI a) = true
      · simp (decide := true) [q]
      · simp (decide := true) [q, fv q]
    · by_cases w7 : what = 7
      · subst w7
        simp (decide := true)
      · by_cases w0 : what = 0
        · subst w0
          simp (decide := true) [eo]
        · simp [w5, w6, w7, w0]
theorem sim_addresses {B n k : Nat} {RA RI RC S : Nat → Int32} {dy vl db : Int32} (h : rel B n k RA RI RC dy vl db S) (what : Int32) : fX8_addresses RA (nI n) dy what = fX9_addresses S what := by
  obtain ⟨⟨⟨hn, hk⟩, ⟨s0, s1, s2, s6, s7⟩, hdv⟩, hr, -⟩ := id h
  have key : ∀ (m i : Nat) (x : Int32), i + m = n → fX2_addressesOfKind_4 RA (nI n) dy what (m + 1) x (nI i) = fX9_addresses_16 S what (m + 1) x (nI i) := by
    intro m
    induction m with
    | zero =>
      intro i x e
      rw [fX2_addressesOfKind_4_s, fX9_addresses_16_s, s0, if_pos (show nI n ≤ nI i from nI_le (by omega) (by omega)), if_pos (show nI n ≤ nI i from nI_le (by omega) (by omega))]
    | succ m ih =>
      intro i x e
      have hi : i < 24 := by omega
      rw [fX2_addressesOfKind_4_s, fX9_addresses_16_s, s0, if_neg (show ¬ nI n ≤ nI i from nI_ge (by omega) (by omega)), if_neg (show ¬ nI n ≤ nI i from nI_ge (by omega) (by omega))]
      simp only [bd_1]
      rw [nI_1, ih (i + 1) _ (by omega), ih (i + 1) _ (by omega), kind_eq hi (hr i (by omega)).1 (hr i (by omega)).2 s2, Int32.or_zero]
  unfold fX8_addresses fX9_addresses fX2_addressesOfKind
  rw [in_eq]
  simp only [bd_1]
  rw [s0, fuel_eq (by omega)]
  have := key n 0 0 (by omega)
  rw [nI_0] at this
  rw [this]
theorem sim_possible {B n k : Nat} {RA RI RC S : Nat → Int32} {dy vl db : Int32} (h : rel B n k RA RI RC dy vl db S) (hB : B < 2 ^ 31 - 1) (who time : Int32) : fX8_possible RA RI (nI n) (nI k) dy db who time = fX9_possible S who time := by
  obtain ⟨⟨⟨hn, hk⟩, ⟨s0, s1, s2, s6, s7⟩, hdv⟩, hr, he, hi, -⟩ := id h
  unfold fX8_possible fX9_possible fX5_hasInterviewer fX9_isStaff fX8_isTime fX2_possibleAddresses
  rw [in_eq]
  simp only [bd_1]
  rw [s0, s1, fuel_eq (by omega)]
  by_cases c1 : fX9_in who 0 (nI k - 1) = true
  · rw [if_pos c1, if_pos c1]
    obtain ⟨w, hw, rfl⟩ := idx_of (by omega) c1
    have key : ∀ (m i : Nat) (x : Int32), i + m = n → fX2_possibleAddresses_5 RA RI (nI n) dy db (nI w) time (m + 1) x (nI i) = fX9_possible_24 S (nI w) time (m + 1) x (nI i) := by
      intro m
      induction m with
      | zero =>
        intro i x e
        rw [fX2_possibleAddresses_5_s, fX9_possible_24_s, s0, if_pos (show nI n ≤ nI i from nI_le (by omega) (by omega)), if_pos (show nI n ≤ nI i from nI_le (by omega) (by omega))]
      | succ m ih =>
        intro i x e
        have hi' : i < 24 := by omega
        rw [fX2_possibleAddresses_5_s, fX9_possible_24_s, s0, if_neg (show ¬ nI n ≤ nI i from nI_ge (by omega) (by omega)), if_neg (show ¬ nI n ≤ nI i from nI_ge (by omega) (by omega))]
        simp only [bd_1]
        rw [nI_1, ih (i + 1) _ (by omega), ih (i + 1) _ (by omega), may_eq (vl := vl) (n := n) (k := k) (by omega) hi' hB (hr i (by omega)).1 (hr i (by omega)).2 (hi w (by omega)) s2 s7, Int32.or_zero]
    have := key n 0 0 (by omega)
    rw [nI_0] at this
    rw [this]
  · rw [if_neg c1, if_neg c1]
/-! sums over the addresses -/
theorem sum_c {RA : Nat → Int32} {n : Nat} {col : Int32} {c : Nat} (hn : n ≤ 24) (hg : ∀ a, a < 24 → fX6_get 240 RA 10 (nI a) col = RA (iA a c)) : fX2_sumOfAddresses RA (nI n) col = sumF (fun a => RA (iA a c)) 0 n := by
  have key : ∀ (m i : Nat) (x : Int32), i + m = n → fX2_sumOfAddresses_4 RA (nI n) col (m + 1) x (nI i) = x + sumF (fun a => RA (iA a c)) i m := by
    intro m
    induction m with
    | zero =>
      intro i x e
      rw [fX2_sumOfAddresses_4_s, if_pos (show nI n ≤ nI i from nI_le (by omega) (by omega))]
      exact (Int32.add_zero x).symm
    | succ m ih =>
      intro i x e
      rw [fX2_sumOfAddresses_4_s, if_neg (show ¬ nI n ≤ nI i from nI_ge (by omega) (by omega))]
      unfold fX5_ofAddress
      simp only [bd_1]
      rw [hg i (by omega), nI_1, ih (i + 1) _ (by omega), Int32.add_assoc]
      rfl
  unfold fX2_sumOfAddresses
  rw [fuel_eq (by omega)]
  have := key n 0 0 (by omega)
  rw [nI_0, Int32.zero_add] at this
  exact this
theorem with_c {RA : Nat → Int32} {n : Nat} {out : Int32} (hn : n ≤ 24) : fX2_addressesWith RA (nI n) out = sumF (fun a => if RA (iA a 1) = out then 1 else 0) 0 n := by
  have key : ∀ (m i : Nat) (x : Int32), i + m = n → fX2_addressesWith_4 RA (nI n) out (m + 1) x (nI i) = x + sumF (fun a => if RA (iA a 1) = out then 1 else 0) i m := by
    intro m
    induction m with
    | zero =>
      intro i x e
      rw [fX2_addressesWith_4_s, if_pos (show nI n ≤ nI i from nI_le (by omega) (by omega))]
      exact (Int32.add_zero x).symm
    | succ m ih =>
      intro i x e
      rw [fX2_addressesWith_4_s, if_neg (show ¬ nI n ≤ nI i from nI_ge (by omega) (by omega))]
      unfold fX5_ofAddress
      simp only [bd_1]
      rw [gA_1 (by omega), nI_1, ih (i + 1) _ (by omega), ih (i + 1) _ (by omega)]
      show _ = x + ((if RA (iA i 1) = out then 1 else 0) + sumF (fun a => if RA (iA a 1) = out then 1 else 0) (i + 1) m)
      by_cases q : RA (iA i 1) = out
      · rw [if_pos q, if_pos q, Int32.add_assoc]
      · rw [if_neg q, if_neg q, Int32.zero_add]
  unfold fX2_addressesWith
  rw [fuel_eq (by omega)]
  have := key n 0 0 (by omega)
  rw [nI_0, Int32.zero_add] at this
  exact this
theorem area_eq {RC S : Nat → Int32} {x : Nat} (hx : x < 4) (h : ∀ g, g < 3 → ceR RC S x g) : fX2_wantedInArea RC (nI x) = fX9_wantedIn S (nI x) := by
  have e4 : ((3 : Int32).toInt - (0 : Int32).toInt).toNat + 1 = 4 := by decide
  have w0 : fX5_wantedIn RC (nI x) 0 = fX9_wanted S (nI x) 0 := want_eq (g := 0) hx (by decide) (h 0 (by decide))
  have w1 : fX5_wantedIn RC (nI x) 1 = fX9_wanted S (nI x) 1 := want_eq (g := 1) hx (by decide) (h 1 (by decide))
  have w2 : fX5_wantedIn RC (nI x) 2 = fX9_wanted S (nI x) 2 := want_eq (g := 2) hx (by decide) (h 2 (by decide))
  unfold fX2_wantedInArea fX9_wantedIn
  simp only [bd_1]
  rw [e4, fX2_wantedInArea_4_s, if_neg (by decide)]
  simp only [bd_1]
  rw [show (0 : Int32) + 1 = 1 from by decide, fX2_wantedInArea_4_s, if_neg (by decide)]
  simp only [bd_1]
  rw [show (1 : Int32) + 1 = 2 from by decide, fX2_wantedInArea_4_s, if_neg (by decide)]
  simp only [bd_1]
  rw [show (2 : Int32) + 1 = 3 from by decide, fX2_wantedInArea_4_s, if_pos (by decide), w0, w1, w2, Int32.zero_add]
theorem all_eq {RC S : Nat → Int32} (h : ∀ x, x < 4 → ∀ g, g < 3 → ceR RC S x g) : fX2_wantedInAll RC = ((fX9_wantedIn S 0 + fX9_wantedIn S 1) + fX9_wantedIn S 2) + fX9_wantedIn S 3 := by
  have e5 : ((4 : Int32).toInt - (0 : Int32).toInt).toNat + 1 = 5 := by decide
  have w0 : fX2_wantedInArea RC 0 = fX9_wantedIn S 0 := area_eq (x := 0) (by decide) (h 0 (by decide))
  have w1 : fX2_wantedInArea RC 1 = fX9_wantedIn S 1 := area_eq (x := 1) (by decide) (h 1 (by decide))
  have w2 : fX2_wantedInArea RC 2 = fX9_wantedIn S 2 := area_eq (x := 2) (by decide) (h 2 (by decide))
  have w3 : fX2_wantedInArea RC 3 = fX9_wantedIn S 3 := area_eq (x := 3) (by decide) (h 3 (by decide))
  unfold fX2_wantedInAll
  rw [e5, fX2_wantedInAll_4_s, if_neg (by decide)]
  simp only [bd_1]
  rw [show (0 : Int32) + 1 = 1 from by decide, fX2_wantedInAll_4_s, if_neg (by decide)]
  simp only [bd_1]
  rw [show (1 : Int32) + 1 = 2 from by decide, fX2_wantedInAll_4_s, if_neg (by decide)]
  simp only [bd_1]
  rw [show (2 : Int32) + 1 = 3 from by decide, fX2_wantedInAll_4_s, if_neg (by decide)]
  simp only [bd_1]
  rw [show (3 : Int32) + 1 = 4 from by decide, fX2_wantedInAll_4_s, if_pos (by decide), w0, w1, w2, w3, Int32.zero_add]
theorem sim_count {B n k : Nat} {RA RI RC S : Nat → Int32} {dy vl db : Int32} (h : rel B n k RA RI RC dy vl db S) (st ln what : Int32) : fX8_count RA RC (nI n) (nI k) dy vl db st ln what = fX9_count S st ln what := by
  obtain ⟨⟨⟨hn, hk⟩, ⟨s0, s1, s2, s6, s7⟩, hdv⟩, hr, he, hi, hik, hz2, hc, hs⟩ := id h
  have q3 : fX2_sumOfAddresses RA (nI n) 2 = S 3 := by
    rw [sum_c hn (fun a ha => gA_2 ha), hs.1]
    exact sumF_eq n 0 (fun a _ ha => (hr a (by omega)).1.1.2.2.1)
  have q4 : fX2_sumOfAddresses RA (nI n) 3 = S 4 := by
    rw [sum_c hn (fun a ha => gA_3 ha), hs.2.1]
    exact sumF_eq n 0 (fun a _ ha => (hr a (by omega)).1.1.2.2.2)
  have q5 : fX2_addressesWith RA (nI n) 1 = S 5 := by
    rw [with_c hn, hs.2.2]
    exact sumF_eq n 0 (fun a _ ha => by
      show (if RA (iA a 1) = 1 then (1 : Int32) else 0) = (if S (iP a 1) = 1 then 1 else 0)
      rw [(hr a (by omega)).1.1.2.1])
  unfold fX8_count fX9_count fX1_size fX4_length fX2_number
  simp only [bd_1]
  rw [q3, q4, q5, all_eq (fun x hx g hg => (hc x hx g hg).1), appt_eq h]
  by_cases c0 : what = 0
  · subst c0
    simp (decide := true) [s0, s1, s2, s6, s7]
  by_cases c1 : what = 1
  · subst c1
    simp (decide := true) [s0, s1, s2, s6, s7]
  by_cases c2 : what = 2
  · subst c2
    simp (decide := true) [s0, s1, s2, s6, s7]
  by_cases c3 : what = 3
  · subst c3
    simp (decide := true) [s0, s1, s2, s6, s7]
  by_cases c4 : what = 4
  · subst c4
    simp (decide := true) [s0, s1, s2, s6, s7]
  by_cases c5 : what = 5
  · subst c5
    simp (decide := true) [s0, s1, s2, s6, s7]
  by_cases c6 : what = 6
  · subst c6
    simp (decide := true) [s0, s1, s2, s6, s7]
  by_cases c7 : what = 7
  · subst c7
    simp (decide := true) [s0, s1, s2, s6, s7]
  by_cases c8 : what = 8
  · subst c8
    simp (decide := true) [s0, s1, s2, s6, s7]
  by_cases c9 : what = 9
  · subst c9
    simp (decide := true) [s0, s1, s2, s6, s7]
  by_cases c10 : what = 10
  · subst c10
    simp (decide := true) [s0, s1, s2, s6, s7]
  by_cases c11 : what = 11
  · subst c11
    simp (decide := true) [s0, s1, s2, s6, s7]
  simp [c0, c1, c2, c3, c4, c5, c6, c7, c8, c9, c10, c11]
