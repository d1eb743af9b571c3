/-! the part of a group -/
section FP3
theorem i2f_z : FP.fmul FP.fconst0 (FP.i2f (nI 0)) = 0 := by decide +kernel
variable {RC S : Nat → Int32}
def pbT (RC : Nat → Int32) (j : Nat) : UInt32 := awT RC (nI (j / 4)) (nI (j % 4))
def pbA (RC : Nat → Int32) : Nat → UInt32
  | 0 => 0
  | j + 1 => FP.fadd (pbA RC j) (pbT RC j)
def pbG (RC : Nat → Int32) (g : Nat) : Nat → UInt32
  | 0 => 0
  | j + 1 => if j / 4 = g then FP.fadd (pbG RC g j) (pbT RC j) else pbG RC g j
/-- the terms: by what the cells hold -/
theorem pbT_c {x g d p : Nat} (hx : x < 4) (hg : g < 3) (h : ceR RC S x g) (e1 : S (iC x g 1) = nI d) (e2 : S (iC x g 2) = nI p) (hd : d ≤ 20) : (1 ≤ d → awT RC (nI g) (nI x) = FP.fmul (FP.fdiv (FP.i2f (nI p)) (FP.i2f (nI d))) (FP.i2f (nI d)) ∧ fX9_share S (nI x) (nI g) = awT RC (nI g) (nI x)) ∧ (d = 0 → awT RC (nI g) (nI x) = 0) := by
  constructor
  · intro h1
    have a1 : awT RC (nI g) (nI x) = FP.fmul (FP.fdiv (FP.i2f (nI p)) (FP.i2f (nI d))) (FP.i2f (nI d)) := by
      unfold awT
      rw [wt_c hx hg h e1 e2 h1 hd, cl_1 hx hg h, e1]
    refine ⟨a1, ?_⟩
    rw [a1]
    unfold fX9_share
    simp only [bd_1]
    rw [oC_1 hx hg, wt_9 hx hg e1 e2, e1]
  · intro h0
    subst h0
    unfold awT fX2_weightOf
    simp only [bd_1]
    rw [cl_1 hx hg h, e1, if_neg (by decide)]
    exact i2f_z
theorem pbT_G {x g : Nat} (hx : x < 4) (hg : g < 3) (h : ceR RC S x g) (hk : ceK S x g) : fG (awT RC (nI g) (nI x)) 121 195 := by
  obtain ⟨d, p, hd, hp, e1, e2⟩ := ce_d hk
  obtain ⟨t1, t0⟩ := pbT_c hx hg h e1 e2 hd
  by_cases c : 1 ≤ d
  · rw [(t1 c).1]
    exact ml_G (dv_G (by omega) c (by omega)) c (by omega)
  · rw [t0 (by omega)]
    exact Or.inl rfl
variable (hc : ∀ x, x < 4 → ∀ g, g < 3 → ceR RC S x g ∧ ceK S x g)
theorem pbT_ok (hc : ∀ x, x < 4 → ∀ g, g < 3 → ceR RC S x g ∧ ceK S x g) {j : Nat} (hj : j < 12) : fG (pbT RC j) 121 195 := pbT_G (S := S) (by omega) (by omega) (hc (j % 4) (by omega) (j / 4) (by omega)).1 (hc (j % 4) (by omega) (j / 4) (by omega)).2
theorem fG_up {x : UInt32} {n m : Nat} (h : fG x 121 (195 + 2 * n)) (hnm : n ≤ m) : fG x 121 (195 + 2 * m) := by
  rcases h with h | h
  · exact Or.inl h
  · exact Or.inr ⟨h.1, sm_hi h.2 (by omega)⟩
theorem pbA_ok (hc : ∀ x, x < 4 → ∀ g, g < 3 → ceR RC S x g ∧ ceK S x g) : ∀ j : Nat, j ≤ 12 → fG (pbA RC j) 121 (195 + 2 * j) := by
  intro j
  induction j with
  | zero => exact fun _ => Or.inl rfl
  | succ j ih => exact fun h => ad_G (ih (by omega)) (pbT_ok hc (by omega)) (by omega)
theorem pbG_ok (hc : ∀ x, x < 4 → ∀ g, g < 3 → ceR RC S x g ∧ ceK S x g) (g : Nat) : ∀ j : Nat, j ≤ 12 → fG (pbG RC g j) 121 (195 + 2 * j) := by
  intro j
  induction j with
  | zero => exact fun _ => Or.inl rfl
  | succ j ih =>
    intro h
    show fG (if j / 4 = g then FP.fadd (pbG RC g j) (pbT RC j) else pbG RC g j) 121 _
    by_cases c : j / 4 = g
    · rw [if_pos c]
      exact ad_G (ih (by omega)) (pbT_ok hc (by omega)) (by omega)
    · rw [if_neg c]
      exact fG_up (ih (by omega)) (by omega)
theorem pb_ix : ∀ j : Fin 12, nI j.val - nI j.val / 4 * 4 = nI (j.val % 4) ∧ nI j.val / 4 = nI (j.val / 4) := by decide +kernel
theorem pb_loop (hc : ∀ x, x < 4 → ∀ g, g < 3 → ceR RC S x g ∧ ceK S x g) {g : Nat} (hg : g < 3) : ∀ m j : Nat, j + m = 12 → fX9_partBits_18 S (nI g) (m + 1) (pbG RC g j) (pbA RC j) (nI j) = (if Op.cmpValue (FP.fcmp (pbA RC 12) FP.fconst0) .l = 0 then (-4) else (FP.fdiv (pbG RC g 12) (pbA RC 12)).toInt32) := by
  intro m
  induction m with
  | zero =>
    intro j e
    have e12 : j = 12 := by omega
    subst e12
    rw [fX9_partBits_18_s, if_pos (by decide)]
    unfold fJxf58ca_floatToIntBits_5c35a
    simp only [bd_1]
  | succ m ih =>
    intro j e
    have hj : j < 12 := by omega
    have hx : j % 4 < 4 := by omega
    have hq : j / 4 < 3 := by omega
    obtain ⟨i1, i2⟩ := pb_ix ⟨j, hj⟩
    have i1 : nI j - nI j / 4 * 4 = nI (j % 4) := i1
    have i2 : nI j / 4 = nI (j / 4) := i2
    rw [fX9_partBits_18_s, if_neg (show ¬ (12 : Int32) ≤ nI j from nI_ge (b := 12) hj (by decide)), i1, i2]
    simp only [bd_1]
    obtain ⟨d, p, hd, hp, e1, e2⟩ := ce_d (hc (j % 4) hx (j / 4) hq).2
    obtain ⟨t1, t0⟩ := pbT_c hx hq (hc (j % 4) hx (j / 4) hq).1 e1 e2 hd
    have hA := pbA_ok hc j (by omega)
    have hG := pbG_ok hc g j (by omega)
    have ih := ih (j + 1) (by omega)
    rw [oC_1 hx hq, e1, nI_1]
    have sA : pbA RC (j + 1) = FP.fadd (pbA RC j) (awT RC (nI (j / 4)) (nI (j % 4))) := rfl
    have sG : pbG RC g (j + 1) = if j / 4 = g then FP.fadd (pbG RC g j) (awT RC (nI (j / 4)) (nI (j % 4))) else pbG RC g j := rfl
    rw [sA, sG] at ih
    by_cases c : 1 ≤ d
    · rw [if_neg (nI_nle (by omega) (by omega)), (t1 c).2]
      by_cases q : j / 4 = g
      · rw [if_pos (show nI (j / 4) = nI g by rw [q])]
        rw [if_pos q] at ih
        exact ih
      · rw [if_neg (fun hh => q ((nI_eq (by omega) (by omega)).mp hh)), show FP.fadd (pbG RC g j) FP.fconst0 = pbG RC g j from f0_add hG (by omega)]
        rw [if_neg q] at ih
        exact ih
    · have h0 : d = 0 := by omega
      rw [t0 h0, f0_add hA (by omega), f0_add hG (by omega), ite_self] at ih
      rw [h0, if_pos (by decide)]
      exact ih
theorem pb_class (g : Nat) (hg : g < 3) (hA : fG (pbA RC 12) 121 220) (hG : fG (pbG RC g 12) 121 220) (ha : pbG RC g 12 = fX2_addWeights RC FP.fconst0 (nI g)) : fX2_partOfGroup RC (nI g) = (if Op.cmpValue (FP.fcmp (pbA RC 12) FP.fconst0) .l = 0 then (-4) else (FP.fdiv (pbG RC g 12) (pbA RC 12)).toInt32) := by
  have e4 : ((3 : Int32).toInt - (0 : Int32).toInt).toNat + 1 = 4 := by decide
  have k0 : (0 : Int32) + 1 = 1 := by decide
  have k1 : (1 : Int32) + 1 = 2 := by decide
  have k2 : (2 : Int32) + 1 = 3 := by decide
  have hs : fX2_addWeights RC (fX2_addWeights RC (fX2_addWeights RC FP.fconst0 0) 1) 2 = pbA RC 12 := by
    rw [aw_eq, aw_eq, aw_eq]
    rfl
  unfold fX2_partOfGroup
  rw [e4, fX2_partOfGroup_4_s, if_neg (by decide)]
  simp only [bd_1]
  rw [k0, fX2_partOfGroup_4_s, if_neg (by decide)]
  simp only [bd_1]
  rw [k1, fX2_partOfGroup_4_s, if_neg (by decide)]
  simp only [bd_1]
  rw [k2, fX2_partOfGroup_4_s, if_pos (by decide)]
  simp only [bd_1]
  rw [hs, ← ha]
  obtain ⟨c1, c2⟩ := fG_cmp0 hA (by decide)
  by_cases c : pbA RC 12 = 0
  · rw [if_neg (fun h => c1.mp h c), if_pos (c2.mpr c)]
  · rw [if_pos (c1.mpr c), if_neg (fun h => c (c2.mp h))]
    exact pt_bits hG hA c
theorem pb_own (g : Nat) (hg : g < 3) (h0 : FP.fadd 0 (pbT RC 0) = FP.fadd 0 (pbT RC 0)) : pbG RC g 12 = fX2_addWeights RC FP.fconst0 (nI g) := by
  rw [aw_eq]
  rcases (show g = 0 ∨ g = 1 ∨ g = 2 by omega) with rfl | rfl | rfl
  · rfl
  · rfl
  · rfl
variable {B : Nat} {RA RI : Nat → Int32} {na ni dy vl db first size : Int32} {HS : Nat → SV} {Cf : Nat → Int32} {len : Int32} {Pa Tx : Nat → Int32} {st ln : Int32}
theorem lc_partBits (h : lawR B RA RI RC na ni dy vl db first size HS Cf len S Pa Tx st ln) (x1 : Int32) : fX8_partBits RC x1 = fX9_partBits S x1 := by
  obtain ⟨n, k, -, -, hr⟩ := lr_rel h
  have hc := hr.2.2.2.2.2.2.1
  unfold fX8_partBits fX9_partBits
  rw [in_eq]
  simp only [bd_1]
  by_cases c : fX9_in x1 0 2 = true
  · rw [if_pos c, if_pos c]
    have h1 := (in_rng c).2
    rw [show (2 : Int32).toInt = 2 by decide] at h1
    have h0 : 0 ≤ x1.toInt := (in_rng c).1
    obtain ⟨g, hg, rfl⟩ := nI_of_rng (v := x1) (n := 3) (by decide) h0 (by omega)
    rw [pb_class g hg (fG_up (n := 12) (m := 12) (pbA_ok hc 12 (by decide)) (by decide) |> fun h => by
      rcases h with h | h
      · exact Or.inl h
      · exact Or.inr ⟨h.1, sm_hi h.2 (by decide)⟩) (by
      rcases pbG_ok hc g 12 (by decide) with h | h
      · exact Or.inl h
      · exact Or.inr ⟨h.1, sm_hi h.2 (by decide)⟩) (pb_own g hg rfl)]
    exact (pb_loop hc hg 12 0 rfl).symm
  · rw [if_neg c, if_neg c]
end FP3
