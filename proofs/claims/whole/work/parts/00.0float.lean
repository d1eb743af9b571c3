/-! floats: magnitudes, and what is no NaN -/
theorem fl_n32 {a : UInt32} (h : FP.Core.fIsNaN a = false) : vf_n32 a := by
  have h1 := (FP.Core.ne_nan32 a).mp ((FP.Core.notNaN_iff32 a).mp h)
  have e : (0x7f800000 : UInt32).toNat = 2139095040 := rfl
  unfold vf_n32
  rw [UInt32.le_iff_toNat_le, FP.Core.mask_toNat32, e]
  exact h1
/-- a float's magnitude: below an exponent -/
def fm (a : UInt32) (K : Nat) : Prop := a.toNat % 2 ^ 31 < K * 2 ^ 23
theorem fm_fin {a : UInt32} {K : Nat} (h : fm a K) (hK : K ≤ 255) : FP.Core.FFin a := FP.Core.fin_of_lt32 h hK
theorem fm_nn {a : UInt32} {K : Nat} (h : fm a K) (hK : K ≤ 255) : FP.Core.fIsNaN a = false := (fm_fin h hK).notNaN
theorem fm_le {a : UInt32} {K L : Nat} (h : fm a K) (hk : K ≤ L) : fm a L :=
  Nat.lt_of_lt_of_le h (Nat.mul_le_mul_right _ hk)
theorem fm_i (v : Int32) : fm (FP.i2f v) 160 := FP.Core.i2f_mag v
theorem fm_div {x y : Int32} (hy : y.toInt ≠ 0) : fm (FP.fdiv (FP.i2f x) (FP.i2f y)) 161 :=
  Nat.lt_of_lt_of_le (FP.Core.fdiv_mag (K := 160) (L := 127) (FP.Core.i2f_mag x) (FP.Core.i2f_big hy).1 (FP.Core.i2f_big hy).2 (by decide) (by decide)) (by decide)
theorem fm_mul {a b : UInt32} (ha : fm a 161) (hb : fm b 160) : fm (FP.fmul a b) 195 :=
  Nat.lt_of_lt_of_le (FP.Core.fmul_mag (Ka := 161) (Kb := 160) ha hb (by decide) (by decide)) (by decide)
theorem fm_up {x w : UInt32} {K n n' : Nat} (hx : fm x (K + 2 * n)) (hw : fm w 195) (hK : 195 ≤ K) (hb : K + 2 * n ≤ 255) (e : n' = n + 1) : fm (FP.fadd x w) (K + 2 * n') := by
  have h := FP.Core.fadd_mag (a := x) (b := w) (K := K + 2 * n) hx (fm_le hw (by omega)) hb
  rw [e]
  exact Nat.lt_of_lt_of_le h (Nat.mul_le_mul_right _ (by omega))
theorem fm_0 {K : Nat} (h : 0 < K) : fm FP.fconst0 K := by
  have e : (FP.fconst0).toNat % 2 ^ 31 = 0 := rfl
  unfold fm
  rw [e]
  exact Nat.mul_pos h (by decide)
theorem fl_pos {y : Int32} (h : 0 < y) : y.toInt ≠ 0 := by
  have h1 := Int32.lt_iff_toInt_lt.mp h
  have e : (0 : Int32).toInt = 0 := by decide
  rw [e] at h1
  omega
theorem fl_npos {y : Int32} (h : ¬ y ≤ 0) : ¬ y = 0 := fun e => h (by rw [e]; decide)
theorem fl_nz {y : Int32} (h : ¬ y = 0) : y.toInt ≠ 0 := FP.Core.int32_ne h
theorem fl_div (x : Int32) {y : Int32} (hy : y.toInt ≠ 0) : vf_n32 (FP.fdiv (FP.i2f x) (FP.i2f y)) := fl_n32 (fm_nn (fm_div hy) (by decide))
theorem fl_nndiv (x : Int32) {y : Int32} (hy : y.toInt ≠ 0) : FP.Core.fIsNaN (FP.fdiv (FP.i2f x) (FP.i2f y)) = false := fm_nn (fm_div hy) (by decide)
theorem fl_2fin : FP.Core.FFin FP.fconst2 := (FP.Core.fin_bits32 _).mpr (by decide +kernel)
theorem fl_2nz : ¬ FP.Core.FZero FP.fconst2 := fun h => absurd ((FP.Core.zero_bits232 _).mp h) (by decide +kernel)
theorem fl_half {a : UInt32} (h : FP.Core.fIsNaN a = false) : FP.Core.fIsNaN (FP.fdiv a FP.fconst2) = false := FP.Core.fdiv_out h fl_2fin fl_2nz
theorem fl_twice {a : UInt32} (h : FP.Core.fIsNaN a = false) : FP.Core.fIsNaN (FP.fmul a FP.fconst2) = false := FP.Core.fmul_out' h fl_2fin fl_2nz
theorem fl_8m {a : UInt32} (h : FP.Core.fIsNaN a = false) : FP.Core.fIsNaN (FP.fmul a (1258291200 : UInt32)) = false :=
  FP.Core.fmul_out' h ((FP.Core.fin_bits32 _).mpr (by decide +kernel)) (fun h => absurd ((FP.Core.zero_bits232 _).mp h) (by decide +kernel))
theorem fl_gt {a b : UInt32} (h : (0 : Int32) < Op.cmpValue (FP.fcmp a b) .l) : FP.fcmp a b = some .gt := by
  cases hc : FP.fcmp a b with
  | none => rw [hc] at h; exact absurd h (by decide)
  | some o =>
    rw [hc] at h
    cases o with
    | lt => exact absurd h (by decide)
    | eq => exact absurd h (by decide)
    | gt => rfl
theorem fl_gt_nz {a : UInt32} (h : (0 : Int32) < Op.cmpValue (FP.fcmp a FP.fconst0) .l) : ¬ FP.Core.FZero a := by
  intro hz
  have h1 : FP.Core.fcmp a FP.fconst0 = some .eq := FP.Core.zero_iff32.mpr hz
  have h2 : FP.Core.fcmp a FP.fconst0 = some .gt := fl_gt h
  rw [h1] at h2
  exact absurd h2 (by decide)
theorem fl_part {a b : UInt32} {K : Nat} (ha : FP.Core.fIsNaN a = false) (hb : fm b K) (hK : K ≤ 255) (h : (0 : Int32) < Op.cmpValue (FP.fcmp b FP.fconst0) .l) : FP.Core.fIsNaN (FP.fdiv a b) = false :=
  FP.Core.fdiv_out ha (fm_fin hb hK) (fl_gt_nz h)
theorem fl_self {a : UInt32} (h : FP.Core.fIsNaN a = false) : FP.fcmp a a = some .eq := FP.Core.fcmp_refl h
theorem cl_up {k b : Int32} (h0 : ¬ k < 0) (h1 : ¬ b ≤ k) : (k + 1).toNatClampNeg = k.toNatClampNeg + 1 := by
  have h2 := (not_congr Int32.lt_iff_toInt_lt).mp h0
  have h3 := (not_congr Int32.le_iff_toInt_le).mp h1
  have e0 : (0 : Int32).toInt = 0 := by decide
  have e1 : (1 : Int32).toInt = 1 := by decide
  have hb := Int32.toInt_lt b
  rw [e0] at h2
  have e : (k + 1).toInt = k.toInt + 1 := by
    rw [Int32.toInt_add, e1]
    apply Int.bmod_eq_of_le <;> omega
  show (k + 1).toInt.toNat = k.toInt.toNat + 1
  rw [e]
  omega
theorem cl_lt {k b : Int32} (h0 : ¬ k < 0) (h1 : ¬ b ≤ k) : k.toNatClampNeg < b.toNatClampNeg := by
  have h2 := (not_congr Int32.lt_iff_toInt_lt).mp h0
  have h3 := (not_congr Int32.le_iff_toInt_le).mp h1
  have e0 : (0 : Int32).toInt = 0 := by decide
  rw [e0] at h2
  show k.toInt.toNat < b.toInt.toNat
  omega
