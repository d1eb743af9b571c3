/-! places of the reference's arrays -/
theorem vp_d {i : Int32} {n : Nat} (h : decide (0 ≤ i.toInt ∧ i.toInt < n) = true) : vp_in i n := vp_in_iff.mpr (of_decide_eq_true h)
theorem vp_le {i : Int32} {n k : Nat} (h : vp_in i n) (hk : n ≤ k) : vp_in i k := by
  have h1 := vp_in_iff.mp h
  exact vp_in_iff.mpr ⟨h1.1, by omega⟩
theorem ix_pl {x w : Int32} (h : vp_in x 24) (hw : vp_in w 10) : vp_in (74 + 10 * x + w) 314 := by
  obtain ⟨a, ha, rfl⟩ := vp_in_of h (by decide)
  obtain ⟨b, hb, rfl⟩ := vp_in_of hw (by decide)
  show vp_in (nI 74 + nI 10 * nI a + nI b) 314
  rw [pk_mul, nI_add, nI_add]
  exact vp_in_nI (by omega) (by decide)
theorem ix_wh {x w : Int32} (h : vp_in x 5) (hw : vp_in w 6) : vp_in (44 + 6 * x + w) 314 := by
  obtain ⟨a, ha, rfl⟩ := vp_in_of h (by decide)
  obtain ⟨b, hb, rfl⟩ := vp_in_of hw (by decide)
  show vp_in (nI 44 + nI 6 * nI a + nI b) 314
  rw [pk_mul, nI_add, nI_add]
  exact vp_in_nI (by omega) (by decide)
theorem ix_ce {x g w : Int32} (h : vp_in x 4) (hg : vp_in g 3) (hw : vp_in w 3) : vp_in (8 + 3 * (3 * x + g) + w) 314 := by
  obtain ⟨a, ha, rfl⟩ := vp_in_of h (by decide)
  obtain ⟨b, hb, rfl⟩ := vp_in_of hg (by decide)
  obtain ⟨d, hd, rfl⟩ := vp_in_of hw (by decide)
  show vp_in (nI 8 + nI 3 * (nI 3 * nI a + nI b) + nI d) 314
  rw [pk_mul, nI_add, pk_mul, nI_add, nI_add]
  exact vp_in_nI (by omega) (by decide)
/-- a counter from 0 below a bound -/
theorem vp_k {k b : Int32} {n : Nat} (h0 : ¬ k < 0) (h1 : ¬ b ≤ k) (hb : vp_in b (n + 1)) : vp_in k n := by
  have hb' := vp_in_iff.mp hb
  have h2 := (not_congr Int32.lt_iff_toInt_lt).mp h0
  have h3 := (not_congr Int32.le_iff_toInt_le).mp h1
  have e0 : (0 : Int32).toInt = 0 := by decide
  rw [e0] at h2
  exact vp_in_iff.mpr ⟨by omega, by omega⟩
theorem vp_ne {x y : Int32} {n : Nat} (h : vp_in x (n + 1)) (hy : y.toInt = n) (hne : ¬ x = y) : vp_in x n := by
  have h1 := vp_in_iff.mp h
  have h2 := ne_ti hne hy
  exact vp_in_iff.mpr ⟨h1.1, by omega⟩
/-- a counter goes up below a bound -/
theorem up_k {k b : Int32} (h0 : ¬ k < 0) (h1 : ¬ b ≤ k) : ¬ k + 1 < 0 := by
  have h2 := (not_congr Int32.lt_iff_toInt_lt).mp h0
  have h3 := (not_congr Int32.le_iff_toInt_le).mp h1
  have e0 : (0 : Int32).toInt = 0 := by decide
  have e1 : (1 : Int32).toInt = 1 := by decide
  have hb := Int32.toInt_lt b
  rw [e0] at h2
  have e : (k + 1).toInt = k.toInt + 1 := by
    rw [Int32.toInt_add, e1]
    apply Int.bmod_eq_of_le <;> omega
  intro h
  have h4 := Int32.lt_iff_toInt_lt.mp h
  rw [e0, e] at h4
  omega
