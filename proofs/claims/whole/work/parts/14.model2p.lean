theorem i_pl {a : Nat} (j : Nat) (ha : a < 24) (hj : j < 10) : ((74 : Int32) + 10 * nI a + nI j).toNatClampNeg = 74 + 10 * a + j := by
  show (nI 74 + nI 10 * nI a + nI j).toNatClampNeg = _
  rw [pk_mul, nI_add, nI_add, nI_clamp (by omega)]
theorem i_wh {a : Nat} (j : Nat) (ha : a < 5) (hj : j < 6) : ((44 : Int32) + 6 * nI a + nI j).toNatClampNeg = 44 + 6 * a + j := by
  show (nI 44 + nI 6 * nI a + nI j).toNatClampNeg = _
  rw [pk_mul, nI_add, nI_add, nI_clamp (by omega)]
theorem i_ce {a g : Nat} (j : Nat) (ha : a < 4) (hg : g < 3) (hj : j < 3) : ((8 : Int32) + 3 * (3 * nI a + nI g) + nI j).toNatClampNeg = 8 + 3 * (3 * a + g) + j := by
  show (nI 8 + nI 3 * (nI 3 * nI a + nI g) + nI j).toNatClampNeg = _
  rw [pk_mul, nI_add, pk_mul, nI_add, nI_add, nI_clamp (by omega)]
/-- counts, place by place -/
theorem counts_nf (S : Nat → Int32) {w a : Nat} (t : Int32) (hw : w < 5) (ha : a < 24) : fX9_counts S (nI w) (nI a) t = upd (upd (upd (upd (upd (upd (upd (upd (upd S (74 + 10 * a + 2) (S (74 + 10 * a + 2) + 1)) (74 + 10 * a + 4) (S 2)) (74 + 10 * a + 5) t) (74 + 10 * a + 6) 0) (74 + 10 * a + 9) (nI w)) (44 + 6 * w + 2) (S (44 + 6 * w + 2) + 1)) (44 + 6 * w + 3) (S (44 + 6 * w + 3) + 1)) (44 + 6 * w + 5) (S (44 + 6 * w + 5) + (if S (44 + 6 * w + 0) = S (74 + 10 * a + 0) then 0 else 1))) 3 (S 3 + 1) := by
  have e0 : ((74 : Int32) + 10 * nI a + 0).toNatClampNeg = 74 + 10 * a + 0 := i_pl 0 ha (by decide)
  have e2 : ((74 : Int32) + 10 * nI a + 2).toNatClampNeg = 74 + 10 * a + 2 := i_pl 2 ha (by decide)
  have e4 : ((74 : Int32) + 10 * nI a + 4).toNatClampNeg = 74 + 10 * a + 4 := i_pl 4 ha (by decide)
  have e5 : ((74 : Int32) + 10 * nI a + 5).toNatClampNeg = 74 + 10 * a + 5 := i_pl 5 ha (by decide)
  have e6 : ((74 : Int32) + 10 * nI a + 6).toNatClampNeg = 74 + 10 * a + 6 := i_pl 6 ha (by decide)
  have e9 : ((74 : Int32) + 10 * nI a + 9).toNatClampNeg = 74 + 10 * a + 9 := i_pl 9 ha (by decide)
  have w0 : ((44 : Int32) + 6 * nI w + 0).toNatClampNeg = 44 + 6 * w + 0 := i_wh 0 hw (by decide)
  have w2 : ((44 : Int32) + 6 * nI w + 2).toNatClampNeg = 44 + 6 * w + 2 := i_wh 2 hw (by decide)
  have w3 : ((44 : Int32) + 6 * nI w + 3).toNatClampNeg = 44 + 6 * w + 3 := i_wh 3 hw (by decide)
  have w5 : ((44 : Int32) + 6 * nI w + 5).toNatClampNeg = 44 + 6 * w + 5 := i_wh 5 hw (by decide)
  simp only [fX9_counts, bd1, fX9_ofWho, fX9_of, e0, e2, e4, e5, e6, e9, w0, w2, w3, w5]
  simp (disch := omega) only [pk_us, pk_un]
  split <;> rfl
theorem counts_keep (S : Nat → Int32) {w a t : Int32} (hw : vp_in w 5) (ha : vp_in a 24) {k : Nat} (hk : k < 44 ∧ k ≠ 3 ∨ ∃ b : Nat, k = 74 + 10 * b + 0 ∨ k = 74 + 10 * b + 1) : fX9_counts S w a t k = S k := by
  obtain ⟨i, hi, rfl⟩ := vp_in_of hw (by decide)
  obtain ⟨j, hj, rfl⟩ := vp_in_of ha (by decide)
  rw [counts_nf S t hi hj]
  rcases hk with hk | ⟨b, hk | hk⟩ <;> simp (disch := omega) only [pk_un]
theorem of_nf (S : Nat → Int32) {a : Nat} (j : Nat) (ha : a < 24) (hj : j < 10) : fX9_of S (nI a) (nI j) = S (74 + 10 * a + j) := by
  rw [fX9_of, i_pl j ha hj]
theorem of_0 (S : Nat → Int32) {a : Nat} (ha : a < 24) : fX9_of S (nI a) 0 = S (74 + 10 * a + 0) := of_nf S 0 ha (by decide)
theorem counts_ok {S : Nat → Int32} {w a t : Int32} (hw : vp_in w 5) (ha : vp_in a 24) (ho : okS S) : okS (fX9_counts S w a t) := by
  refine ⟨?_, ?_, fun b hb => ?_⟩
  · rw [counts_keep S hw ha (Or.inl (by decide))]; exact ho.1
  · rw [counts_keep S hw ha (Or.inl (by decide))]; exact ho.2.1
  · have h := ho.2.2 b hb
    obtain ⟨j, hj, rfl⟩ := vp_in_of hb (by decide)
    rw [of_0 _ hj] at h ⊢
    rw [counts_keep S hw ha (Or.inr ⟨j, Or.inl rfl⟩)]
    exact h
/-- a write that okS doesn't see -/
theorem upd_ok {S : Nat → Int32} {k : Nat} {v : Int32} (ho : okS S) (hk : k ≠ 0 ∧ k ≠ 1 ∧ ∀ b : Nat, k ≠ 74 + 10 * b + 0) : okS (upd S k v) := by
  refine ⟨?_, ?_, fun b hb => ?_⟩
  · rw [pk_un (Ne.symm hk.1)]; exact ho.1
  · rw [pk_un (Ne.symm hk.2.1)]; exact ho.2.1
  · have h := ho.2.2 b hb
    obtain ⟨j, hj, rfl⟩ := vp_in_of hb (by decide)
    rw [of_0 _ hj] at h ⊢
    rw [pk_un (Ne.symm (hk.2.2 j))]
    exact h
theorem wh_of {w : Int32} (h : fX9_in w 0 4 = true) (h0 : ¬ w = 0) (h1 : ¬ w = 1) : vp_in (w - 2) 3 := by
  obtain ⟨a, ha, rfl⟩ := vp_in_of (in_of (n := 5) h (by decide) (by decide)) (by decide)
  have g0 : a ≠ 0 := fun e => h0 (by rw [e]; rfl)
  have g1 : a ≠ 1 := fun e => h1 (by rw [e]; rfl)
  show vp_in (nI a - nI 2) 3
  rw [pk_sub (by omega)]
  exact vp_in_nI (by omega) (by decide)
