theorem inc_ti {x : Int32} (h : x.toInt < 2147483647) : (x + 1).toInt = x.toInt + 1 := by
  have e1 : (1 : Int32).toInt = 1 := by decide
  have hl := Int32.le_toInt x
  rw [Int32.toInt_add, e1]
  apply Int.bmod_eq_of_le <;> omega
theorem nn_ti {x : Int32} (h : 0 ≤ x.toInt) : ¬ x < 0 := by
  intro h2
  have h3 := Int32.lt_iff_toInt_lt.mp h2
  have e0 : (0 : Int32).toInt = 0 := by decide
  omega
theorem vp_nn {x : Int32} {n : Nat} (h : vp_in x n) : ¬ x < 0 := nn_ti (vp_in_iff.mp h).1
theorem nle_ti {x y : Int32} (h : ¬ x ≤ y) : y.toInt < x.toInt := by
  have := (not_congr Int32.le_iff_toInt_le).mp h
  omega
def rnI (p x : Int32) : Prop := 0 ≤ p.toInt ∧ p.toInt ≤ 300 + x.toInt ∧ 0 ≤ x.toInt ∧ x.toInt ≤ 7
theorem rn_nn {p x : Int32} (h : rnI p x) : ¬ p < 0 := nn_ti h.1
theorem rn_1 {p x : Int32} (h : rnI p x) (c : ¬ (3 : Int32) ≤ x) : rnI (p + 1) (x + 1) := by
  have h1 := nle_ti c
  have e3 : (3 : Int32).toInt = 3 := by decide
  obtain ⟨a, b, d, e⟩ := h
  refine ⟨?_, ?_, ?_, ?_⟩ <;> rw [inc_ti (by omega)] <;> try rw [inc_ti (by omega)]
  all_goals omega
abbrev rwI := rnI
theorem rw_1 {p x : Int32} (h : rnI p x) (c : ¬ (7 : Int32) ≤ x) : rnI (p + 1) (x + 1) := by
  have h1 := nle_ti c
  have e3 : (7 : Int32).toInt = 7 := by decide
  obtain ⟨a, b, d, e⟩ := h
  refine ⟨?_, ?_, ?_, ?_⟩ <;> rw [inc_ti (by omega)] <;> try rw [inc_ti (by omega)]
  all_goals omega
theorem rw_nn {p x : Int32} (h : rnI p x) : ¬ p < 0 := nn_ti h.1
theorem rw_0 {p : Int32} (h : vp_in p 250) : rnI p 0 := by
  have h1 := vp_in_iff.mp h
  have e0 : (0 : Int32).toInt = 0 := by decide
  exact ⟨by omega, by omega, by omega, by omega⟩
theorem must_ps (Tx : Nat → Int32) (ln ps : Int32) (fm : Bool) (s : Int32) : (fX9_must Tx ln ps fm s).1 = ps + 1 := by
  simp only [fX9_must, bd1]
  split
  · split <;> rfl
  · rfl
theorem rn_0 {Tx : Nat → Int32} {ln ps : Int32} {fm : Bool} {s a : Int32} {b : Bool} (h : fX9_must Tx ln ps fm s = (a, b)) (hq : vp_in ps 250) : rnI a 0 := by
  have e := must_ps Tx ln ps fm s
  rw [h] at e
  have e : a = ps + 1 := e
  have h1 := vp_in_iff.mp hq
  have e0 : (0 : Int32).toInt = 0 := by decide
  rw [e]
  refine ⟨?_, ?_, ?_, ?_⟩ <;> (try rw [inc_ti (by omega)]) <;> omega
