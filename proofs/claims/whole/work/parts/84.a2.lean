/-! the queries that answer with a float's bits -/
section FQ
theorem nI_0lt {d : Nat} (h : 1 ≤ d) (hd : d < 2 ^ 31) : (0 : Int32) < nI d := nI_lt (a := 0) (by omega) hd
theorem cl_1 {RC S : Nat → Int32} {x g : Nat} (hx : x < 4) (hg : g < 3) (h : ceR RC S x g) : fX5_ofCell RC (nI x) (nI g) 1 = S (iC x g 1) := by
  unfold fX5_ofCell
  rw [bd_1, gC_1 hx hg]
  exact h 1 (by decide)
theorem cl_0 {RC S : Nat → Int32} {x g : Nat} (hx : x < 4) (hg : g < 3) (h : ceR RC S x g) : fX5_ofCell RC (nI x) (nI g) 0 = S (iC x g 0) := by
  unfold fX5_ofCell
  rw [bd_1, gC_0 hx hg]
  exact h 0 (by decide)
theorem cl_2 {RC S : Nat → Int32} {x g : Nat} (hx : x < 4) (hg : g < 3) (h : ceR RC S x g) : fX5_ofCell RC (nI x) (nI g) 2 = S (iC x g 2) := by
  unfold fX5_ofCell
  rw [bd_1, gC_2 hx hg]
  exact h 2 (by decide)
theorem ce_d {S : Nat → Int32} {x g : Nat} (h : ceK S x g) : ∃ d p, d ≤ 20 ∧ p ≤ 9999 ∧ S (iC x g 1) = nI d ∧ S (iC x g 2) = nI p := by
  obtain ⟨d, hd, e1⟩ := rng_nI (hi := 20) h.2.1 (by decide)
  obtain ⟨p, hp, e2⟩ := rng_nI (hi := 9999) h.2.2 (by decide)
  exact ⟨d, p, hd, hp, e1, e2⟩
theorem wt_c {RC S : Nat → Int32} {x g d p : Nat} (hx : x < 4) (hg : g < 3) (h : ceR RC S x g) (e1 : S (iC x g 1) = nI d) (e2 : S (iC x g 2) = nI p) (h1 : 1 ≤ d) (hd : d ≤ 20) : fX2_weightOf RC (nI x) (nI g) = FP.fdiv (FP.i2f (nI p)) (FP.i2f (nI d)) := by
  unfold fX2_weightOf
  simp only [bd_1]
  rw [cl_1 hx hg h, e1, if_pos (nI_0lt h1 (by omega)), cl_2 hx hg h, e2]
theorem wt_9 {S : Nat → Int32} {x g d p : Nat} (hx : x < 4) (hg : g < 3) (e1 : S (iC x g 1) = nI d) (e2 : S (iC x g 2) = nI p) : fX9_weight S (nI x) (nI g) = FP.fdiv (FP.i2f (nI p)) (FP.i2f (nI d)) := by
  unfold fX9_weight
  simp only [bd_1]
  rw [oC_2 hx hg, oC_1 hx hg, e1, e2]
theorem wb_eq {RC S : Nat → Int32} {x g : Nat} (hx : x < 4) (hg : g < 3) (h : ceR RC S x g) (hk : ceK S x g) : fX2_weightBits RC (nI x) (nI g) = (if S (iC x g 1) = 0 then (-4) else (fX9_weight S (nI x) (nI g)).toInt32) := by
  obtain ⟨d, p, hd, hp, e1, e2⟩ := ce_d hk
  unfold fX2_weightBits
  simp only [bd_1]
  rw [cl_1 hx hg h, e1]
  by_cases c : 1 ≤ d
  · rw [if_pos (nI_0lt c (by omega)), if_neg (nI_ne0 (by omega) (by omega)), wt_c hx hg h e1 e2 c hd, wt_9 hx hg e1 e2]
    exact dv_bits (by omega) c (by omega)
  · have e0 : d = 0 := by omega
    subst e0
    rw [if_neg (by decide), if_pos (show nI 0 = 0 from rfl)]
variable {B : Nat} {RA RI RC : Nat → Int32} {na ni dy vl db first size : Int32} {HS : Nat → SV} {Cf : Nat → Int32} {len : Int32} {S Pa Tx : Nat → Int32} {st ln : Int32}
theorem lc_cellOf (h : lawR B RA RI RC na ni dy vl db first size HS Cf len S Pa Tx st ln) (x1 x2 x3 : Int32) : fX8_cellOf RC x1 x2 x3 = fX9_cellOf S x1 x2 x3 := by
  obtain ⟨n, k, -, -, hr⟩ := lr_rel h
  have hc := hr.2.2.2.2.2.2.1
  unfold fX8_cellOf fX9_cellOf fJxf58ca_floatToIntBits_5c35a
  rw [cell_eq]
  simp only [bd_1]
  by_cases c1 : fX9_isCell x1 x2 = true
  · rw [if_pos c1, if_pos c1]
    obtain ⟨x, g, hx, hg, rfl, rfl⟩ := cell_idx c1
    have hce := (hc x hx g hg).1
    have hk := (hc x hx g hg).2
    by_cases c2 : fX9_in x3 0 4 = true
    · rw [if_pos c2, cl_0 hx hg hce, cl_1 hx hg hce, cl_2 hx hg hce, oC_0 hx hg, oC_1 hx hg, oC_2 hx hg, want_eq hx hg hce, wb_eq hx hg hce hk]
      have hi := in_rng c2
      by_cases w0 : x3 = 0
      · rw [if_pos w0, if_pos w0]
      rw [if_neg w0, if_neg w0]
      by_cases w1 : x3 = 1
      · rw [if_pos w1, if_pos w1]
      rw [if_neg w1, if_neg w1]
      by_cases w2 : x3 = 2
      · rw [if_pos w2, if_pos w2]
      rw [if_neg w2, if_neg w2]
      by_cases w3 : x3 = 3
      · rw [if_pos w3, if_pos w3]
      rw [if_neg w3, if_neg w3]
      have w4 : x3 = 4 := by
        have h1 := hi.2
        rw [show (4 : Int32).toInt = 4 by decide] at h1
        have h0 : 0 ≤ x3.toInt := hi.1
        obtain ⟨q, hq, rfl⟩ := nI_of_rng (v := x3) (n := 5) (by decide) h0 (by omega)
        rcases (show q = 0 ∨ q = 1 ∨ q = 2 ∨ q = 3 ∨ q = 4 by omega) with rfl | rfl | rfl | rfl | rfl
        · exact absurd rfl w0
        · exact absurd rfl w1
        · exact absurd rfl w2
        · exact absurd rfl w3
        · rfl
      rw [if_pos w4]
    · have hi := in_not c2
      rw [if_neg c2, if_neg (fun e => by rw [e] at hi; exact hi (by decide)), if_neg (fun e => by rw [e] at hi; exact hi (by decide)), if_neg (fun e => by rw [e] at hi; exact hi (by decide)), if_neg (fun e => by rw [e] at hi; exact hi (by decide)), if_neg (fun e => by rw [e] at hi; exact hi (by decide))]
  · rw [if_neg c1, if_neg c1]
theorem sum2 (f g : Nat → Int32) (h : ∀ a, (f a = 0 ∧ g a = 1) ∨ (f a = 1 ∧ g a = 0)) : ∀ m i : Nat, ∃ j1 j2, j1 + j2 = m ∧ sumF f i m = nI j1 ∧ sumF g i m = nI j2 := by
  intro m
  induction m with
  | zero => exact fun i => ⟨0, 0, rfl, rfl, rfl⟩
  | succ m ih =>
    intro i
    obtain ⟨j1, j2, e, e1, e2⟩ := ih (i + 1)
    rcases h i with ⟨a, b⟩ | ⟨a, b⟩
    · refine ⟨j1, j2 + 1, by omega, ?_, ?_⟩
      · show f i + sumF f (i + 1) m = _
        rw [a, e1, Int32.zero_add]
      · show g i + sumF g (i + 1) m = _
        rw [b, e2]
        show nI 1 + nI j2 = _
        rw [nI_add, Nat.add_comm]
    · refine ⟨j1 + 1, j2, by omega, ?_, ?_⟩
      · show f i + sumF f (i + 1) m = _
        rw [a, e1]
        show nI 1 + nI j1 = _
        rw [nI_add, Nat.add_comm]
      · show g i + sumF g (i + 1) m = _
        rw [b, e2, Int32.zero_add]
theorem rb_loop {n : Nat} (hn : n ≤ 24) (s0 : S 0 = nI n) : ∀ (m i : Nat) (y : Int32), i + m = n → fX9_rateBits_4 S (m + 1) y (nI i) = (if y + sumF (fun a => if S (iP a 1) = 0 then 0 else 1) i m = 0 then (-4) else (FP.fdiv (FP.i2f (S 5)) (FP.i2f (y + sumF (fun a => if S (iP a 1) = 0 then 0 else 1) i m))).toInt32) := by
  intro m
  induction m with
  | zero =>
    intro i y e
    rw [fX9_rateBits_4_s, if_pos (by rw [s0]; exact nI_le (by omega) (by omega))]
    unfold fJxf58ca_floatToIntBits_5c35a
    simp only [bd_1]
    rw [show sumF (fun a => if S (iP a 1) = 0 then (0 : Int32) else 1) i 0 = 0 from rfl, Int32.add_zero]
  | succ m ih =>
    intro i y e
    rw [fX9_rateBits_4_s, if_neg (by rw [s0]; exact nI_ge (by omega) (by omega))]
    unfold fX9_isOpen
    simp only [bd_1]
    rw [oP_1 (by omega), nI_1, ih (i + 1) _ (by omega), ih (i + 1) _ (by omega)]
    show _ = (if y + ((if S (iP i 1) = 0 then 0 else 1) + sumF (fun a => if S (iP a 1) = 0 then 0 else 1) (i + 1) m) = 0 then (-4) else (FP.fdiv (FP.i2f (S 5)) (FP.i2f (y + ((if S (iP i 1) = 0 then 0 else 1) + sumF (fun a => if S (iP a 1) = 0 then 0 else 1) (i + 1) m)))).toInt32)
    by_cases q : S (iP i 1) = 0
    · rw [if_pos q, if_pos q, if_pos rfl, Int32.add_zero, Int32.zero_add]
    · rw [if_neg q, if_neg q, if_neg (by decide), Int32.add_assoc]
theorem lc_rateBits (h : lawR B RA RI RC na ni dy vl db first size HS Cf len S Pa Tx st ln) : fX8_rateBits RA na = fX9_rateBits S := by
  obtain ⟨n, k, rfl, -, hr⟩ := lr_rel h
  obtain ⟨⟨⟨hn, hk⟩, ⟨s0, s1, s2, s6, s7⟩, hdv⟩, hrw, he, hi, hik, hz2, hc, hs⟩ := id hr
  have q0 : fX2_addressesWith RA (nI n) 0 = sumF (fun a => if S (iP a 1) = 0 then 1 else 0) 0 n := by
    rw [with_c hn]
    exact sumF_eq n 0 (fun a _ ha => by rw [(hrw a (by omega)).1.1.2.1])
  have q1 : fX2_addressesWith RA (nI n) 1 = S 5 := by
    rw [with_c hn, hs.2.2]
    exact sumF_eq n 0 (fun a _ ha => by rw [(hrw a (by omega)).1.1.2.1])
  obtain ⟨j1, j2, ej, e1, e2⟩ := sum2 (fun a => if S (iP a 1) = 0 then 1 else 0) (fun a => if S (iP a 1) = 0 then 0 else 1) (fun a => by
    by_cases q : S (iP a 1) = 0
    · exact Or.inr ⟨if_pos q, if_pos q⟩
    · exact Or.inl ⟨if_neg q, if_neg q⟩) n 0
  obtain ⟨r1, r2, er, g1, -⟩ := sum2 (fun a => if S (iP a 1) = 1 then 1 else 0) (fun a => if S (iP a 1) = 1 then 0 else 1) (fun a => by
    by_cases q : S (iP a 1) = 1
    · exact Or.inr ⟨if_pos q, if_pos q⟩
    · exact Or.inl ⟨if_neg q, if_neg q⟩) n 0
  have h5 : S 5 = nI r1 := hs.2.2.trans g1
  have h9 : fX9_rateBits S = (if nI j2 = 0 then (-4) else (FP.fdiv (FP.i2f (S 5)) (FP.i2f (nI j2))).toInt32) := by
    unfold fX9_rateBits
    rw [s0, fuel_eq (by omega)]
    have h1 := rb_loop hn s0 n 0 0 (by omega)
    rw [e2, Int32.zero_add] at h1
    exact h1
  have hy : nI n - nI j1 = nI j2 := by
    rw [← ej, ← nI_add, Int32.add_comm, Int32.add_sub_cancel]
  rw [h9]
  unfold fX8_rateBits fX2_rateOfInterviews
  simp only [bd_1]
  rw [q0, e1, q1, hy, h5]
  by_cases c : 1 ≤ j2
  · rw [if_pos (nI_0lt c (by omega)), if_neg (nI_ne0 (by omega) (by omega))]
    exact dv_bits (by omega) c (by omega)
  · have e0 : j2 = 0 := by omega
    subst e0
    rw [if_neg (by decide), if_pos (show nI 0 = 0 from rfl)]
end FQ
