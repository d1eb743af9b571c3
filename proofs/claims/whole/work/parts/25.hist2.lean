theorem sa_some {Hs : Nat → Option Nat} {first place x : Int32} {r : Option Nat} {k h : Nat} (e : fX1_stateAt Hs first place = r) (c : (first + place) - (first + place) / 5 * 5 = x) (hH : Hs k = some h) (hx : ¬ x < 0 ∧ ¬ Int32.ofNat 5 ≤ x ∧ x.toNatClampNeg = k) : r = some h := by
  simp only [fX1_stateAt, bd1] at e
  rw [c, if_neg hx.1, if_neg hx.2.1, hx.2.2, hH] at e
  exact e.symm
theorem sa_in {first place : Int32} (hf : vp_in first 5) (hz : vp_in place 5) : vp_in ((first + place) - (first + place) / 5 * 5) 5 := by
  obtain ⟨a, ha, rfl⟩ := vp_in_of hf (by decide)
  obtain ⟨b, hb, rfl⟩ := vp_in_of hz (by decide)
  rw [nI_add]
  show vp_in (nI (a + b) - nI (a + b) / nI 5 * nI 5) 5
  rw [pk_rem (by omega) (by decide) (by decide)]
  exact vp_in_nI (Nat.mod_lt _ (by decide)) (by decide)
theorem sa_no {x : Int32} (h0 : ¬ x = 0) (h1 : ¬ x = 1) (h2 : ¬ x = 2) (h3 : ¬ x = 3) (h4 : ¬ x = 4) : ¬ vp_in x 5 := by
  intro h
  obtain ⟨a, ha, rfl⟩ := vp_in_of h (by decide)
  rcases (show a = 0 ∨ a = 1 ∨ a = 2 ∨ a = 3 ∨ a = 4 by omega) with rfl | rfl | rfl | rfl | rfl
  · exact h0 rfl
  · exact h1 rfl
  · exact h2 rfl
  · exact h3 rfl
  · exact h4 rfl
theorem sa_m1 {t : Int32} (h : vp_in t 5) (c : (0 : Int32) < t) : vp_in (t - 1) 5 := by
  refine vp_le (vp_m1 (n := 4) h (fun e => ?_)) (by decide)
  rw [e] at c
  exact absurd c (by decide)
