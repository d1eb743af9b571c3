theorem rnL (Tx : Nat → Int32) (ln ps : Int32) (fm : Bool) : ∀ (fu : Nat) (x1 x2 pp : Int32) (f : Bool), (3 - x2.toInt).toNat < fu → rnI pp x2 → x2.toInt ≤ 3 → pp.toInt ≤ (fX9_readNumber_10 Tx ln ps fm fu x1 x2 pp f).2.1.toInt ∧ (fX9_readNumber_10 Tx ln ps fm fu x1 x2 pp f).2.1.toInt ≤ pp.toInt + (3 - x2.toInt) := by
  intro fu
  induction fu with
  | zero =>
    intro x1 x2 pp f h
    exact absurd h (Nat.not_lt_zero _)
  | succ fu ih =>
    intro x1 x2 pp f h hi h3
    have hi' := hi
    obtain ⟨i1, i2, i3, i4⟩ := hi'
    rw [fX9_readNumber_10_s]
    simp only [bd1]
    have stay : ∀ b : Bool, pp.toInt ≤ (x1, pp, b).2.1.toInt ∧ (x1, pp, b).2.1.toInt ≤ pp.toInt + (3 - x2.toInt) := fun b => ⟨Int.le_refl _, by show pp.toInt ≤ _; omega⟩
    by_cases c : (3 : Int32) ≤ x2
    · rw [if_pos c]
      split
      · split <;> exact stay _
      · exact stay _
    · rw [if_neg c]
      have c' := nle_ti c
      have e3 : (3 : Int32).toInt = 3 := by decide
      have e1 := inc_ti (x := x2) (by omega)
      have e2 := inc_ti (x := pp) (by omega)
      split
      · have g := ih ((10 * x1 + fX9_here Tx ln pp) - 48) (x2 + 1) (pp + 1) f (by omega) (rn_1 hi c) (by omega)
        constructor <;> omega
      · split
        · split <;> exact stay _
        · exact stay _
theorem rn_b {Tx : Nat → Int32} {ln ps : Int32} {fm : Bool} (hq : vp_in ps 250) : ps.toInt + 1 ≤ (fX9_readNumber Tx ln ps fm).2.1.toInt ∧ (fX9_readNumber Tx ln ps fm).2.1.toInt ≤ ps.toInt + 4 := by
  have h1 := vp_in_iff.mp hq
  have e0 : (0 : Int32).toInt = 0 := by decide
  have e3 : (3 : Int32).toInt = 3 := by decide
  simp only [fX9_readNumber, bd2]
  have hp := must_ps Tx ln ps fm 32
  have hi : rnI (fX9_must Tx ln ps fm 32).1 0 := rn_0 (a := (fX9_must Tx ln ps fm 32).1) (b := (fX9_must Tx ln ps fm 32).2) rfl hq
  have g := rnL Tx ln ps fm (((3 : Int32).toInt - (0 : Int32).toInt).toNat + 1) 0 0 (fX9_must Tx ln ps fm 32).1 (fX9_must Tx ln ps fm 32).2 (by rw [e0, e3]; decide) hi (by omega)
  have e1 := inc_ti (x := ps) (by omega)
  rw [hp] at g ⊢
  constructor <;> omega
theorem rwL2 (Tx : Nat → Int32) (ln ps : Int32) : ∀ (fu : Nat) (w : Int64) (x4 pp : Int32), (7 - x4.toInt).toNat < fu → 0 ≤ x4.toInt → x4.toInt ≤ 7 → (fX9_readWord_54 Tx ln ps fu w x4 pp).2 = pp ∧ -1 ≤ (fX9_readWord_54 Tx ln ps fu w x4 pp).1.toInt ∧ (fX9_readWord_54 Tx ln ps fu w x4 pp).1.toInt < 7 := by
  intro fu
  induction fu with
  | zero =>
    intro w x4 pp h
    exact absurd h (Nat.not_lt_zero _)
  | succ fu ih =>
    intro w x4 pp h h0 h7
    rw [fX9_readWord_54_s]
    simp only [bd1]
    by_cases c : (7 : Int32) ≤ x4
    · rw [if_pos c]
      exact ⟨rfl, (by decide : -1 ≤ (-1 : Int32).toInt), (by decide : (-1 : Int32).toInt < 7)⟩
    · rw [if_neg c]
      have c' := nle_ti c
      have e7 : (7 : Int32).toInt = 7 := by decide
      have e1 := inc_ti (x := x4) (by omega)
      split
      · exact ⟨rfl, by show -1 ≤ x4.toInt; omega, by show x4.toInt < 7; omega⟩
      · exact ih w (x4 + 1) pp (by omega) (by omega) (by omega)
theorem rwL (Tx : Nat → Int32) (ln ps : Int32) : ∀ (fu : Nat) (w : Int64) (x3 pp : Int32), (7 - x3.toInt).toNat < fu → rnI pp x3 → x3.toInt ≤ 7 → (pp.toInt ≤ (fX9_readWord_4 Tx ln ps fu w x3 pp).2.toInt ∧ (fX9_readWord_4 Tx ln ps fu w x3 pp).2.toInt ≤ pp.toInt + (7 - x3.toInt)) ∧ -1 ≤ (fX9_readWord_4 Tx ln ps fu w x3 pp).1.toInt ∧ (fX9_readWord_4 Tx ln ps fu w x3 pp).1.toInt < 7 := by
  intro fu
  induction fu with
  | zero =>
    intro w x3 pp h
    exact absurd h (Nat.not_lt_zero _)
  | succ fu ih =>
    intro w x3 pp h hi h7
    have hi' := hi
    obtain ⟨i1, i2, i3, i4⟩ := hi'
    have e7 : (7 : Int32).toInt = 7 := by decide
    have e0 : (0 : Int32).toInt = 0 := by decide
    have g := rwL2 Tx ln ps (((7 : Int32).toInt - (0 : Int32).toInt).toNat + 1) w 0 pp (by rw [e0, e7]; decide) (by omega) (by omega)
    rw [fX9_readWord_4_s]
    simp only [bd1]
    by_cases c : (7 : Int32) ≤ x3
    · rw [if_pos c, g.1]
      exact ⟨⟨Int.le_refl _, by omega⟩, g.2⟩
    · rw [if_neg c]
      have c' := nle_ti c
      have e1 := inc_ti (x := x3) (by omega)
      have e2 := inc_ti (x := pp) (by omega)
      split
      · have k := ih ((w <<< ((8 : Int32).toInt64 &&& 63)) ||| (fX9_here Tx ln pp).toInt64) (x3 + 1) (pp + 1) (by omega) (rw_1 hi c) (by omega)
        exact ⟨⟨by omega, by omega⟩, k.2⟩
      · rw [g.1]
        exact ⟨⟨Int.le_refl _, by omega⟩, g.2⟩
theorem rw_b {Tx : Nat → Int32} {ln ps : Int32} (hq : vp_in ps 250) : (ps.toInt ≤ (fX9_readWord Tx ln ps).2.toInt ∧ (fX9_readWord Tx ln ps).2.toInt ≤ ps.toInt + 7) ∧ -1 ≤ (fX9_readWord Tx ln ps).1.toInt ∧ (fX9_readWord Tx ln ps).1.toInt < 7 := by
  have e7 : (7 : Int32).toInt = 7 := by decide
  have e0 : (0 : Int32).toInt = 0 := by decide
  have g := rwL Tx ln ps (((7 : Int32).toInt - (0 : Int32).toInt).toNat + 1) 0 0 ps (by rw [e0, e7]; decide) (rw_0 hq) (by omega)
  exact ⟨⟨g.1.1, by have := g.1.2; rw [e0] at this; exact this⟩, g.2⟩
/-- the numbers of a word -/
theorem many_in {w : Int32} (h1 : -1 ≤ w.toInt) (h2 : w.toInt < 7) : vp_in (fX9_manyOf w) 6 := by
  simp only [fX9_manyOf]
  have e4 : (4 : Int32).toInt = 4 := by decide
  have e6 : (6 : Int32).toInt = 6 := by decide
  split
  · exact vp_d rfl
  · split
    · exact vp_d rfl
    · rename_i g0 g6
      split
      · rename_i g4
        have := Int32.le_iff_toInt_le.mp g4
        have := ne_ti (k := 6) g6 (by decide)
        exact vp_in_iff.mpr ⟨by omega, by omega⟩
      · exact vp_d rfl
/-- where the reading stands in a command -/
def cmI (pp x : Int32) : Prop := 0 ≤ pp.toInt ∧ pp.toInt ≤ 100 + 4 * x.toInt ∧ 0 ≤ x.toInt ∧ x.toInt ≤ 5
theorem cm_0 {Tx : Nat → Int32} {ln ps a b : Int32} (h : fX9_readWord Tx ln ps = (a, b)) (hq : vp_in ps 81) : cmI b 0 := by
  have g := rw_b (Tx := Tx) (ln := ln) (vp_le hq (by decide) : vp_in ps 250)
  rw [h] at g
  have g1 : ps.toInt ≤ b.toInt ∧ b.toInt ≤ ps.toInt + 7 := g.1
  have h1 := vp_in_iff.mp hq
  have e0 : (0 : Int32).toInt = 0 := by decide
  exact ⟨by omega, by omega, by omega, by omega⟩
theorem cm_m {Tx : Nat → Int32} {ln ps a b : Int32} (h : fX9_readWord Tx ln ps = (a, b)) (hq : vp_in ps 81) : vp_in (fX9_manyOf a) 6 := by
  have g := rw_b (Tx := Tx) (ln := ln) (vp_le hq (by decide) : vp_in ps 250)
  rw [h] at g
  exact many_in g.2.1 g.2.2
theorem cm_q {pp x : Int32} (h : cmI pp x) : vp_in pp 250 := by
  obtain ⟨a, b, c, d⟩ := h
  exact vp_in_iff.mpr ⟨a, by omega⟩
theorem cm_nn {pp x : Int32} (h : cmI pp x) : ¬ pp < 0 := nn_ti h.1
theorem cm_x {pp x m w : Int32} (h : cmI pp x) (e : fX9_manyOf w = m) (hm : vp_in (fX9_manyOf w) 6) (c : ¬ m ≤ x) : vp_in x 5 := by
  have c' := nle_ti c
  have hm' := vp_in_iff.mp hm
  rw [e] at hm'
  exact vp_in_iff.mpr ⟨h.2.2.1, by omega⟩
theorem cm_1 {Tx : Nat → Int32} {ln pp x m w r pp' : Int32} {f f' : Bool} (h : cmI pp x) (e : fX9_manyOf w = m) (hm : vp_in (fX9_manyOf w) 6) (c : ¬ m ≤ x) (hr : fX9_readNumber Tx ln pp f = (r, pp', f')) : cmI pp' (x + 1) := by
  have hx := vp_in_iff.mp (cm_x h e hm c)
  have g := rn_b (Tx := Tx) (ln := ln) (fm := f) (cm_q h)
  rw [hr] at g
  have g1 : pp.toInt + 1 ≤ pp'.toInt ∧ pp'.toInt ≤ pp.toInt + 4 := g
  obtain ⟨a, b, d, q⟩ := h
  have e1 := inc_ti (x := x) (by omega)
  exact ⟨by omega, by omega, by omega, by omega⟩
