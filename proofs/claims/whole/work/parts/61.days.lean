/-! days that are left -/
theorem nI_div {a b : Nat} (ha : a < 2 ^ 31) (hb : b < 2 ^ 31) (h0 : 0 < b) : nI a / nI b = nI (a / b) := by
  apply Int32.toInt_inj.mp
  rw [Int32.toInt_div_of_ne_right _ _ (fun e => by
    have := congrArg Int32.toInt e
    rw [nI_toInt hb] at this
    have e1 : (-1 : Int32).toInt = -1 := by decide
    rw [e1] at this
    omega), nI_toInt ha, nI_toInt hb, nI_toInt (Nat.lt_of_le_of_lt (Nat.div_le_self a b) ha)]
  exact (Int.ofNat_tdiv a b).symm
theorem nI_sub {a b : Nat} (h : b ≤ a) : nI a - nI b = nI (a - b) := by
  have : nI a = nI (a - b) + nI b := by rw [nI_add]; congr 1; omega
  rw [this, Int32.sub_eq_add_neg, Int32.add_assoc, ← Int32.sub_eq_add_neg, Int32.sub_self, Int32.add_zero]
/-- a sum of few small numbers, as a natural one -/
theorem sum_nat {f : Nat → Int32} {M : Nat} : ∀ (m i : Nat), (∀ a, i ≤ a → a < i + m → ∃ c, c ≤ M ∧ f a = nI c) → ∃ t, t ≤ m * M ∧ sumF f i m = nI t := by
  intro m
  induction m with
  | zero => intro i _; exact ⟨0, by omega, rfl⟩
  | succ m ih =>
    intro i h
    obtain ⟨c, hc, ec⟩ := h i (Nat.le_refl _) (by omega)
    obtain ⟨t, ht, et⟩ := ih (i + 1) (fun a h1 h2 => h a (by omega) (by omega))
    refine ⟨c + t, by rw [Nat.succ_mul]; omega, ?_⟩
    show f i + sumF f (i + 1) m = _
    rw [ec, et, nI_add]
theorem sum_le {f g : Nat → Int32} {M : Nat} : ∀ (m i : Nat), (∀ a, i ≤ a → a < i + m → ∃ c d, c ≤ d ∧ d ≤ M ∧ f a = nI c ∧ g a = nI d) → ∃ s t, s ≤ t ∧ t ≤ m * M ∧ sumF f i m = nI s ∧ sumF g i m = nI t := by
  intro m
  induction m with
  | zero => intro i _; exact ⟨0, 0, by omega, by omega, rfl, rfl⟩
  | succ m ih =>
    intro i h
    obtain ⟨c, d, hcd, hd, ec, ed⟩ := h i (Nat.le_refl _) (by omega)
    obtain ⟨s, t, hst, ht, es, et⟩ := ih (i + 1) (fun a h1 h2 => h a (by omega) (by omega))
    refine ⟨c + s, d + t, by omega, by rw [Nat.succ_mul]; omega, ?_, ?_⟩
    · show f i + sumF f (i + 1) m = _
      rw [ec, es, nI_add]
    · show g i + sumF g (i + 1) m = _
      rw [ed, et, nI_add]
/-- the calls that an address may still need -/
def needF (S : Nat → Int32) (vl : Int32) (a : Nat) : Int32 := if S (iP a 1) = 0 then (if (1 : Int32) ≤ vl - S (iP a 3) then vl - S (iP a 3) else 1) else 0
theorem need_c {B n k : Nat} {RA RI RC S : Nat → Int32} {dy vl db : Int32} (h : rel B n k RA RI RC dy vl db S) : fX2_callsNeeded RA (nI n) vl = sumF (needF S vl) 0 n := by
  obtain ⟨⟨⟨hn, hk⟩, ⟨s0, s1, s2, s6, s7⟩, hdv⟩, hr, he, hi, -⟩ := id h
  have key : ∀ (m i : Nat) (x : Int32), i + m = n → fX2_callsNeeded_4 RA (nI n) vl (m + 1) x (nI i) = x + sumF (needF S vl) i m := by
    intro m
    induction m with
    | zero =>
      intro i x e
      rw [fX2_callsNeeded_4_s, if_pos (show nI n ≤ nI i from nI_le (by omega) (by omega))]
      exact (Int32.add_zero x).symm
    | succ m ih =>
      intro i x e
      have hi' : i < 24 := by omega
      rw [fX2_callsNeeded_4_s, if_neg (show ¬ nI n ≤ nI i from nI_ge (by omega) (by omega))]
      have r1 : RA (iA i 1) = S (iP i 1) := (hr i (by omega)).1.1.2.1
      have r3 : RA (iA i 3) = S (iP i 3) := (hr i (by omega)).1.1.2.2.2
      unfold fX5_isOpen fX5_ofAddress
      simp only [bd_1]
      rw [gA_1 hi', gA_3 hi', r1, r3, nI_1, ih (i + 1) _ (by omega), ih (i + 1) _ (by omega)]
      show _ = x + (needF S vl i + sumF (needF S vl) (i + 1) m)
      unfold needF
      by_cases o : S (iP i 1) = 0
      · rw [if_pos o, if_pos rfl, if_pos o, ← Int32.add_assoc]
        congr 2
        by_cases q : (1 : Int32) < vl - S (iP i 3)
        · rw [if_pos q, if_pos (Int32.le_of_lt q)]
        · rw [if_neg q]
          by_cases q2 : (1 : Int32) ≤ vl - S (iP i 3)
          · rw [if_pos q2]; exact (Int32.le_antisymm (Int32.not_lt.mp q) q2).symm
          · rw [if_neg q2]
      · rw [if_neg o, if_neg (by decide), if_neg o, Int32.zero_add]
  unfold fX2_callsNeeded
  rw [fuel_eq (by omega)]
  have := key n 0 0 (by omega)
  rw [nI_0, Int32.zero_add] at this
  exact this
theorem staff_c {RI : Nat → Int32} {k : Nat} {col : Int32} {c : Nat} (hk : k ≤ 5) (hg : ∀ a, a < 5 → fX6_get 30 RI 6 (nI a) col = RI (iI a c)) : fX2_sumOfInterviewers RI (nI k) col = sumF (fun a => RI (iI a c)) 0 k := by
  have key : ∀ (m i : Nat) (x : Int32), i + m = k → fX2_sumOfInterviewers_4 RI (nI k) col (m + 1) x (nI i) = x + sumF (fun a => RI (iI a c)) i m := by
    intro m
    induction m with
    | zero =>
      intro i x e
      rw [fX2_sumOfInterviewers_4_s, if_pos (show nI k ≤ nI i from nI_le (by omega) (by omega))]
      exact (Int32.add_zero x).symm
    | succ m ih =>
      intro i x e
      rw [fX2_sumOfInterviewers_4_s, if_neg (show ¬ nI k ≤ nI i from nI_ge (by omega) (by omega))]
      unfold fX5_ofInterviewer
      simp only [bd_1]
      rw [hg i (by omega), nI_1, ih (i + 1) _ (by omega), Int32.add_assoc]
      rfl
  unfold fX2_sumOfInterviewers
  rw [fuel_eq (by omega)]
  have := key k 0 0 (by omega)
  rw [nI_0, Int32.zero_add] at this
  exact this
theorem days_m {B n k : Nat} {RA RI RC S : Nat → Int32} {dy vl db : Int32} (h : rel B n k RA RI RC dy vl db S) : fX9_daysLeft S = (let C := sumF (needF S vl) 0 n; let L := sumF (fun a => S (iW a 1)) 0 k; let T := sumF (fun a => S (iW a 2)) 0 k; if C = 0 then 0 else if L = 0 then -4 else (((C + T) + L) - 1) / L) := by
  obtain ⟨⟨⟨hn, hk⟩, ⟨s0, s1, s2, s6, s7⟩, hdv⟩, hr, he, hi, -⟩ := id h
  have key2 : ∀ (m i : Nat) (C L T : Int32), i + m = k → fX9_daysLeft_67 S (m + 1) C L T (nI i) = if C = 0 then 0 else if L + sumF (fun a => S (iW a 1)) i m = 0 then -4 else (((C + (T + sumF (fun a => S (iW a 2)) i m)) + (L + sumF (fun a => S (iW a 1)) i m)) - 1) / (L + sumF (fun a => S (iW a 1)) i m) := by
    intro m
    induction m with
    | zero =>
      intro i C L T e
      rw [fX9_daysLeft_67_s, s1, if_pos (show nI k ≤ nI i from nI_le (by omega) (by omega))]
      show _ = if C = 0 then 0 else if L + 0 = 0 then -4 else (((C + (T + 0)) + (L + 0)) - 1) / (L + 0)
      rw [Int32.add_zero, Int32.add_zero]
    | succ m ih =>
      intro i C L T e
      rw [fX9_daysLeft_67_s, s1, if_neg (show ¬ nI k ≤ nI i from nI_ge (by omega) (by omega))]
      simp only [bd_1]
      have g1 : sumF (fun a => S (iW a 1)) i (m + 1) = S (iW i 1) + sumF (fun a => S (iW a 1)) (i + 1) m := rfl
      have g2 : sumF (fun a => S (iW a 2)) i (m + 1) = S (iW i 2) + sumF (fun a => S (iW a 2)) (i + 1) m := rfl
      rw [oW_1 (by omega), oW_2 (by omega), nI_1, ih (i + 1) _ _ _ (by omega), g1, g2, Int32.add_assoc L, Int32.add_assoc T]
  have key : ∀ (m i : Nat) (x : Int32), i + m = n → fX9_daysLeft_4 S (m + 1) x (nI i) = fX9_daysLeft_67 S (k + 1) (x + sumF (needF S vl) i m) 0 0 0 := by
    intro m
    induction m with
    | zero =>
      intro i x e
      rw [fX9_daysLeft_4_s, s0, if_pos (show nI n ≤ nI i from nI_le (by omega) (by omega)), s1, fuel_eq (by omega)]
      show _ = fX9_daysLeft_67 S (k + 1) (x + 0) 0 0 0
      rw [Int32.add_zero]
    | succ m ih =>
      intro i x e
      have hi' : i < 24 := by omega
      rw [fX9_daysLeft_4_s, s0, if_neg (show ¬ nI n ≤ nI i from nI_ge (by omega) (by omega))]
      unfold fX9_isOpen
      simp only [bd_1]
      rw [oP_3 hi', oP_1 hi', s6, nI_1, ih (i + 1) _ (by omega), ih (i + 1) _ (by omega), ih (i + 1) _ (by omega)]
      have ef : sumF (needF S vl) i (m + 1) = needF S vl i + sumF (needF S vl) (i + 1) m := rfl
      rw [ef]
      unfold needF
      by_cases o : S (iP i 1) = 0
      · rw [if_pos o, if_pos rfl, if_pos o]
        by_cases q2 : (1 : Int32) ≤ vl - S (iP i 3)
        · rw [if_pos q2, if_pos q2, Int32.add_assoc]
        · rw [if_neg q2, if_neg q2, Int32.add_assoc]
      · rw [if_neg o, if_neg (by decide), if_neg o, Int32.zero_add, Int32.add_zero]
  unfold fX9_daysLeft
  rw [s0, fuel_eq (by omega)]
  have h1 := key n 0 0 (by omega)
  have h2 := key2 k 0 (sumF (needF S vl) 0 n) 0 0 (by omega)
  rw [nI_0, Int32.zero_add] at h1
  rw [nI_0, Int32.zero_add, Int32.zero_add] at h2
  rw [h1, h2]
theorem sim_daysLeft {B n k : Nat} {RA RI RC S : Nat → Int32} {dy vl db : Int32} (h : rel B n k RA RI RC dy vl db S) (hB : B < 2 ^ 20) : fX8_daysLeft RA RI (nI n) (nI k) vl = fX9_daysLeft S := by
  obtain ⟨⟨⟨hn, hk⟩, ⟨s0, s1, s2, s6, s7⟩, hdy, hvl, hdb⟩, hr, he, hi, hik, -⟩ := id h
  have e0 : (0 : Int32).toInt = 0 := by decide
  have e1 : (1 : Int32).toInt = 1 := by decide
  obtain ⟨C, hC, eC⟩ := sum_nat (f := needF S vl) (M := 9) n 0 (fun a _ ha => by
    have k3 := (hr a (by omega)).2.2.2.2.2
    have es : (vl - S (iP a 3)).toInt = vl.toInt - (S (iP a 3)).toInt := by
      have := hvl.1; have := hvl.2; have := k3.1; have := k3.2
      rw [Int32.toInt_sub]
      apply Int.bmod_eq_of_le <;> omega
    unfold needF
    split
    · split
      · rename_i q
        have q := Int32.le_iff_toInt_le.mp q
        rw [e1] at q
        exact rng_nI ⟨by omega, by have := hvl.2; have := k3.1; omega⟩ (by decide)
      · exact ⟨1, by decide, rfl⟩
    · exact ⟨0, by decide, rfl⟩)
  obtain ⟨T, L, hTL, hL, eT, eL⟩ := sum_le (f := fun a => S (iW a 2)) (g := fun a => S (iW a 1)) (M := 9) k 0 (fun a _ ha => by
    obtain ⟨z1, z2, z3, z4⟩ := hik a (by omega)
    obtain ⟨d, hd, ed⟩ := rng_nI (v := S (iW a 1)) (hi := 9) ⟨by have := z2.1; omega, z2.2⟩ (by decide)
    obtain ⟨c, hc, ec⟩ := rng_nI (v := S (iW a 2)) (hi := 9) ⟨z3, by have := z2.2; omega⟩ (by decide)
    refine ⟨c, d, ?_, hd, ec, ed⟩
    rw [ec, ed, nI_toInt (by omega), nI_toInt (by omega)] at z4
    omega)
  have hC' : C ≤ 216 := Nat.le_trans hC (by omega)
  have hL' : L ≤ 45 := Nat.le_trans hL (by omega)
  have f1 : fX2_sumOfInterviewers RI (nI k) 1 = nI L := by
    rw [staff_c hk (fun a ha => gI_1 ha), ← eL]
    exact sumF_eq k 0 (fun a _ ha => hi a (by omega) 1 (by decide))
  have f2 : fX2_sumOfInterviewers RI (nI k) 2 = nI T := by
    rw [staff_c hk (fun a ha => gI_2 ha), ← eT]
    exact sumF_eq k 0 (fun a _ ha => hi a (by omega) 2 (by decide))
  rw [days_m h]
  unfold fX8_daysLeft fX2_daysNeeded
  simp only [bd_1]
  rw [need_c h, eC, f1, f2, eT, eL]
  by_cases c0 : C = 0
  · subst c0
    rw [if_pos (show nI 0 = 0 from rfl), if_pos (show nI 0 = 0 from rfl)]
  · rw [if_neg (show ¬ nI C = 0 from nI_ne0 (by omega) (by omega)), if_neg (show ¬ nI C = 0 from nI_ne0 (by omega) (by omega))]
    by_cases l0 : L = 0
    · subst l0
      rw [if_neg (show ¬ (0 : Int32) < nI 0 by decide), if_pos (show nI 0 = 0 from rfl)]
    · rw [if_pos (show (0 : Int32) < nI L from nI_lt (a := 0) (by omega) (by omega)), if_neg (show ¬ nI L = 0 from nI_ne0 (by omega) (by omega)), nI_sub hTL]
      have rhs : nI C + nI T + nI L - 1 = nI (C + T + L - 1) := by
        rw [nI_add, nI_add, show (1 : Int32) = nI 1 from rfl, nI_sub (by omega)]
      rw [rhs, nI_div (by omega) (by omega) (by omega)]
      by_cases q : C ≤ L - T
      · have : ¬ (0 : Int32) < nI C - nI (L - T) := fun z => by
          have := Int32.lt_iff_toInt_lt.mp z
          rw [sub_nI (by omega) (by omega), e0] at this
          omega
        rw [if_neg this]
        have : (C + T + L - 1) / L = 1 := by
          have h1 : C + T + L - 1 = (C + T - 1) + L := by omega
          rw [h1, Nat.add_div_right _ (by omega), Nat.div_eq_of_lt (by omega)]
        rw [this]
        rfl
      · rw [nI_sub (by omega), if_pos (show (0 : Int32) < nI (C - (L - T)) from nI_lt (a := 0) (by omega) (by omega)), nI_add, show (1 : Int32) = nI 1 from rfl, nI_sub (by omega), nI_div (by omega) (by omega) (by omega), nI_add]
        have h1 : C + T + L - 1 = (C - (L - T) + L - 1) + L := by omega
        rw [h1, Nat.add_div_right _ (by omega), Nat.add_comm]
