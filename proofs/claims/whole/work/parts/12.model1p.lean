/-- what was looked at by in(.., least, most) -/
theorem in_of {v least most : Int32} {n : Nat} (h : fX9_in v least most = true) (hl : 0 ≤ least.toInt) (hm : most.toInt < n) : vp_in v n := by
  unfold fX9_in at h
  split at h
  · cases h
  · rename_i h1
    split at h
    · cases h
    · rename_i h2
      have h3 := (not_congr Int32.lt_iff_toInt_lt).mp h1
      have h4 := (not_congr Int32.lt_iff_toInt_lt).mp h2
      exact vp_in_iff.mpr ⟨by omega, by omega⟩
theorem isCell_of {a g : Int32} (h : fX9_isCell a g = true) : vp_in a 4 ∧ vp_in g 3 := by
  simp only [fX9_isCell, bd1] at h
  split at h
  · rename_i h1
    split at h
    · rename_i h2
      exact ⟨in_of h1 (by decide) (by decide), in_of h2 (by decide) (by decide)⟩
    · cases h
  · cases h
/-- below a bound that is kept in the array -/
theorem inb_of {k b : Int32} {n : Nat} (h : fX9_in k 0 (b - 1) = true) (hb : vp_in b (n + 1)) : vp_in k n := by
  unfold fX9_in at h
  split at h
  · cases h
  · rename_i h1
    split at h
    · cases h
    · rename_i h2
      have h3 := (not_congr Int32.lt_iff_toInt_lt).mp h1
      have h4 := (not_congr Int32.lt_iff_toInt_lt).mp h2
      have hb' := vp_in_iff.mp hb
      have e0 : (0 : Int32).toInt = 0 := by decide
      have e1 : (1 : Int32).toInt = 1 := by decide
      have hu := Int32.toInt_lt b
      have e : (b - 1).toInt = b.toInt - 1 := by
        rw [Int32.toInt_sub, e1]
        apply Int.bmod_eq_of_le <;> omega
      rw [e0] at h3
      rw [e] at h4
      exact vp_in_iff.mpr ⟨by omega, by omega⟩
theorem st_of {S : Nat → Int32} {k : Int32} (h : fX9_isStaff S k = true) (hs : vp_in (S 1) 6) : vp_in k 5 := inb_of h hs
theorem ad_of {S : Nat → Int32} {k : Int32} (h : fX9_isAddress S k = true) (hs : vp_in (S 0) 25) : vp_in k 24 := inb_of h hs
theorem as_of {S : Nat → Int32} {w a t : Int32} (h : fX9_isAsked S w a t = true) (h0 : vp_in (S 0) 25) (h1 : vp_in (S 1) 6) : vp_in w 5 ∧ vp_in a 24 := by
  simp only [fX9_isAsked, bd1] at h
  split at h
  · rename_i g1
    split at h
    · rename_i g2
      exact ⟨st_of g1 h1, ad_of g2 h0⟩
    · cases h
  · cases h
/-- the place of an index -/
theorem iv_pl {x w : Int32} (h : vp_in x 24) (hw : vp_in w 10) : (74 + 10 * x + w).toNatClampNeg = 74 + 10 * x.toNatClampNeg + w.toNatClampNeg := by
  obtain ⟨a, ha, rfl⟩ := vp_in_of h (by decide)
  obtain ⟨b, hb, rfl⟩ := vp_in_of hw (by decide)
  show (nI 74 + nI 10 * nI a + nI b).toNatClampNeg = _
  rw [pk_mul, nI_add, nI_add, nI_clamp (by omega), nI_clamp (by omega), nI_clamp (by omega)]
theorem iv_wh {x w : Int32} (h : vp_in x 5) (hw : vp_in w 6) : (44 + 6 * x + w).toNatClampNeg = 44 + 6 * x.toNatClampNeg + w.toNatClampNeg := by
  obtain ⟨a, ha, rfl⟩ := vp_in_of h (by decide)
  obtain ⟨b, hb, rfl⟩ := vp_in_of hw (by decide)
  show (nI 44 + nI 6 * nI a + nI b).toNatClampNeg = _
  rw [pk_mul, nI_add, nI_add, nI_clamp (by omega), nI_clamp (by omega), nI_clamp (by omega)]
theorem iv_ce {x g w : Int32} (h : vp_in x 4) (hg : vp_in g 3) (hw : vp_in w 3) : (8 + 3 * (3 * x + g) + w).toNatClampNeg = 8 + 3 * (3 * x.toNatClampNeg + g.toNatClampNeg) + w.toNatClampNeg := by
  obtain ⟨a, ha, rfl⟩ := vp_in_of h (by decide)
  obtain ⟨b, hb, rfl⟩ := vp_in_of hg (by decide)
  obtain ⟨d, hd, rfl⟩ := vp_in_of hw (by decide)
  show (nI 8 + nI 3 * (nI 3 * nI a + nI b) + nI d).toNatClampNeg = _
  rw [pk_mul, nI_add, pk_mul, nI_add, nI_add, nI_clamp (by omega), nI_clamp (by omega), nI_clamp (by omega), nI_clamp (by omega)]
theorem vp_cl {x : Int32} {n : Nat} (h : vp_in x n) (hn : n < 2 ^ 31) : x.toNatClampNeg < n := by
  obtain ⟨a, ha, rfl⟩ := vp_in_of h hn
  rw [nI_clamp (by omega)]
  exact ha
theorem un_pl {S : Nat → Int32} {x w v : Int32} {k : Nat} (h : vp_in x 24) (hw : vp_in w 10) (hk : k < 74) : upd S (74 + 10 * x + w).toNatClampNeg v k = S k := pk_un (by rw [iv_pl h hw]; omega)
theorem un_wh {S : Nat → Int32} {x w v : Int32} {k : Nat} (h : vp_in x 5) (hw : vp_in w 6) (hk : k < 44 ∨ 74 ≤ k) : upd S (44 + 6 * x + w).toNatClampNeg v k = S k := pk_un (by
  have h1 := vp_cl h (by decide)
  have h2 := vp_cl hw (by decide)
  rw [iv_wh h hw]; omega)
/-- what the reference's numbers keep to: counts of addresses and staff, areas -/
def okS (S : Nat → Int32) : Prop := vp_in (S 0) 25 ∧ vp_in (S 1) 6 ∧ ∀ a : Int32, vp_in a 24 → vp_in (fX9_of S a 0) 4
theorem ix_st {w : Int32} (h : vp_in w 2) : vp_in (6 + w) 314 := by
  obtain ⟨a, ha, rfl⟩ := vp_in_of h (by decide)
  show vp_in (nI 6 + nI a) 314
  rw [nI_add]
  exact vp_in_nI (by omega) (by decide)
theorem ix_pa {t k : Int32} (h : vp_in t 4) (hk : vp_in k 314) : vp_in (314 * t + k) 1256 := by
  obtain ⟨a, ha, rfl⟩ := vp_in_of h (by decide)
  obtain ⟨b, hb, rfl⟩ := vp_in_of hk (by decide)
  show vp_in (nI 314 * nI a + nI b) 1256
  rw [pk_mul, nI_add]
  exact vp_in_nI (by omega) (by decide)
theorem ix_942 {k : Int32} (h0 : ¬ k < 0) (h1 : ¬ (942 : Int32) ≤ k) : vp_in (k + 314) 1256 := by
  obtain ⟨a, ha, rfl⟩ := vp_in_of (vp_k (n := 942) h0 h1 (vp_d rfl)) (by decide)
  show vp_in (nI a + nI 314) 1256
  rw [nI_add]
  exact vp_in_nI (by omega) (by decide)
theorem vp_m1 {t : Int32} {n : Nat} (h : vp_in t (n + 1)) (h0 : ¬ t = 0) : vp_in (t - 1) n := by
  have h1 := vp_in_iff.mp h
  have h2 := ne_ti (k := 0) h0 (by decide)
  have e1 : (1 : Int32).toInt = 1 := by decide
  have hu := Int32.toInt_lt t
  have e : (t - 1).toInt = t.toInt - 1 := by
    rw [Int32.toInt_sub, e1]
    apply Int.bmod_eq_of_le <;> omega
  exact vp_in_iff.mpr ⟨by omega, by omega⟩
