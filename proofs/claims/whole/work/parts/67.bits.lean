/-! the bits of a normal float, as the class reckons them -/
section FBITS
/-- a normal float above zero: its exponent and its tail -/
def fN (a : UInt32) (E t : Nat) : Prop := a.toNat = E * 2 ^ 23 + t ∧ t < 2 ^ 23 ∧ 1 ≤ E ∧ E ≤ 254
theorem fN_val {a : UInt32} {E t : Nat} (h : fN a E t) : FP.Core.val32 a = .fin false (2 ^ 23 + t) ((E : Int) - 150) := by
  obtain ⟨h, ht, h1, h2⟩ := h
  have e1 : FP.Core.b32.tails = 8388608 := by decide
  have e2 : FP.Core.b32.exps = 256 := by decide
  have e3 : FP.Core.b32.qmin = -149 := by decide
  have eE : FP.Core.fieldE FP.Core.b32 a.toNat = E := by
    unfold FP.Core.fieldE; rw [e1, e2, h]; omega
  have eT : FP.Core.fieldT FP.Core.b32 a.toNat = t := by
    unfold FP.Core.fieldT; rw [e1, h]; omega
  have eS : FP.Core.fieldS FP.Core.b32 a.toNat = false := by
    unfold FP.Core.fieldS
    rw [e1, e2, h]
    have h3 : (E * 2 ^ 23 + t) / 8388608 / 256 % 2 = 0 := by omega
    rw [h3]; rfl
  unfold FP.Core.val32 FP.Core.decode
  rw [eE, eT, eS, e1, e2, e3, if_neg (by omega), if_neg (by omega)]
  have h4 : (-149 : Int) + ((E : Int) - 1) = (E : Int) - 150 := by omega
  rw [h4]
theorem fN_of {a : UInt32} {E t : Nat} (ht : t < 2 ^ 23) (h1 : 1 ≤ E) (h2 : E ≤ 254) (h : FP.Core.val32 a = .fin false (2 ^ 23 + t) ((E : Int) - 150)) : fN a E t := by
  have hb : fN (UInt32.ofNat (E * 2 ^ 23 + t)) E t := ⟨UInt32.toNat_ofNat_of_lt' (show E * 2 ^ 23 + t < 4294967296 by omega), ht, h1, h2⟩
  have e : a = UInt32.ofNat (E * 2 ^ 23 + t) := FP.Core.val32_inj (by rw [h]; exact fun h => nomatch h) (h.trans (fN_val hb).symm)
  rw [e]; exact hb
theorem fN_fits {E t : Nat} (ht : t < 2 ^ 23) (h1 : 1 ≤ E) (h2 : E ≤ 254) : FP.Core.fits FP.Core.b32 (.fin false (2 ^ 23 + t) ((E : Int) - 150)) := by
  have e0 : FP.Core.b32.p = 24 := rfl
  have e1 : FP.Core.b32.tails = 8388608 := by decide
  have e3 : FP.Core.b32.qmin = -149 := by decide
  have e4 : FP.Core.b32.qmax = 104 := by decide
  show 2 ^ 23 + t < 2 ^ FP.Core.b32.p ∧ FP.Core.b32.qmin ≤ (E : Int) - 150 ∧ (E : Int) - 150 ≤ FP.Core.b32.qmax ∧ ((E : Int) - 150 = FP.Core.b32.qmin ∨ FP.Core.b32.tails ≤ 2 ^ 23 + t)
  rw [e0, e1, e3, e4]
  refine ⟨by omega, by omega, by omega, Or.inr (by omega)⟩
theorem fN_2 : fN FP.fconst2 128 0 := ⟨by decide, by decide, by decide, by decide⟩
theorem fN_1 : fN FP.fconst1 127 0 := ⟨by decide, by decide, by decide, by decide⟩
theorem fN_8m : fN (1258291200 : UInt32) 150 0 := ⟨by decide, by decide, by decide, by decide⟩
theorem fN_half {a : UInt32} {E t : Nat} (h : fN a (E + 1) t) (hE : 1 ≤ E) : fN (FP.fdiv a FP.fconst2) E t := by
  obtain ⟨-, ht, -, h2⟩ := id h
  refine fN_of ht hE (by omega) ?_
  rw [FP.Core.val32_fdiv, fN_val h, show FP.Core.val32 FP.fconst2 = _ from fN_val fN_2]
  show (if 2 ^ 23 + 0 = 0 then (if 2 ^ 23 + t = 0 then FP.Core.Datum.nan else .inf (false != false)) else FP.Core.roundRatio FP.Core.b32 (false != false) (2 ^ 23 + t) (2 ^ 23 + 0) ((((E + 1 : Nat) : Int) - 150) - (((128 : Nat) : Int) - 150))) = _
  rw [if_neg (by decide)]
  refine FP.Core.roundRatio_exact FP.Core.good_b32 (s := false) (by decide) (fN_fits ht hE (by omega)) ?_
  rw [show (((((E + 1 : Nat) : Int) - 150) - (((128 : Nat) : Int) - 150)) - ((E : Int) - 150)).toNat = 23 by omega, show (((E : Int) - 150) - ((((E + 1 : Nat) : Int) - 150) - (((128 : Nat) : Int) - 150))).toNat = 0 by omega]
  omega
theorem fN_mul {a b : UInt32} {E G t : Nat} (h : fN a E t) (hb : fN b G 0) (h1 : 128 ≤ E + G) (h2 : E + G ≤ 381) : fN (FP.fmul a b) (E + G - 127) t := by
  obtain ⟨-, ht, -, -⟩ := id h
  refine fN_of ht (by omega) (by omega) ?_
  rw [FP.Core.val32_fmul, fN_val h, fN_val hb]
  show FP.Core.roundRatio FP.Core.b32 (false != false) ((2 ^ 23 + t) * (2 ^ 23 + 0)) 1 (((E : Int) - 150) + ((G : Int) - 150)) = _
  refine FP.Core.roundRatio_exact FP.Core.good_b32 (s := false) (by decide) (fN_fits ht (by omega) (by omega)) ?_
  rw [show ((((E : Int) - 150) + ((G : Int) - 150)) - (((E + G - 127 : Nat) : Int) - 150)).toNat = 0 by omega, show ((((E + G - 127 : Nat) : Int) - 150) - (((E : Int) - 150) + ((G : Int) - 150))).toNat = 23 by omega]
  omega
theorem fN_i {a : UInt32} {t : Nat} (h : fN a 150 t) : FP.f2i a = nI (2 ^ 23 + t) := by
  obtain ⟨-, ht, -, -⟩ := id h
  refine FP.Core.f2i_int ?_
  unfold FP.Core.FInt
  rw [fN_val h]
  have e : (nI (2 ^ 23 + t)).toInt = ((2 ^ 23 + t : Nat) : Int) := Int32.toInt_ofNat_of_lt (by omega)
  rw [e]
  show (((2 ^ 23 + t) * 2 ^ (((150 : Nat) : Int) - 150).toNat : Nat) : Int) = ((2 ^ 23 + t : Nat) : Int) * ((2 ^ (-(((150 : Nat) : Int) - 150)).toNat : Nat) : Int)
  simp
theorem fN_key {a : UInt32} {E t : Nat} (h : fN a E t) : FP.Core.fkey a = (a.toNat : Int) ∧ FP.Core.val32 a ≠ .nan := by
  obtain ⟨h0, ht, h1, h2⟩ := id h
  refine ⟨?_, by rw [fN_val h]; exact fun h => nomatch h⟩
  unfold FP.Core.fkey
  rw [if_neg (by omega)]
theorem f0_key : FP.Core.fkey FP.fconst0 = 0 ∧ FP.Core.val32 FP.fconst0 ≠ .nan := by
  refine ⟨by decide, ?_⟩
  rw [show FP.Core.val32 FP.fconst0 = _ from FP.Core.val32_fconst0]
  exact fun h => nomatch h
theorem fN_pos {a : UInt32} {E t : Nat} (h : fN a E t) : (0 : Int32) < Op.cmpValue (FP.fcmp a FP.fconst0) .l := by
  have e : FP.fcmp a FP.fconst0 = some .gt := by
    refine (FP.Core.fcmp_gt_key (fN_key h).2 f0_key.2).mpr ?_
    rw [(fN_key h).1, f0_key.1]
    obtain ⟨h0, ht, h1, h2⟩ := h
    omega
  rw [e]; decide
theorem fN_lt2 {a : UInt32} {E t : Nat} (h : fN a E t) : Op.cmpValue (FP.fcmp a FP.fconst2) .l < 0 ↔ E ≤ 127 := by
  have k1 := fN_key h
  have k2 := fN_key fN_2
  have e2 : FP.fconst2.toNat = 128 * 2 ^ 23 := by decide
  obtain ⟨h0, ht, h1, h2⟩ := h
  by_cases hE : E ≤ 127
  · have e : FP.fcmp a FP.fconst2 = some .lt := (FP.Core.fcmp_lt_key k1.2 k2.2).mpr (by rw [k1.1, k2.1, e2]; omega)
    rw [e]
    exact ⟨fun _ => hE, fun _ => by decide⟩
  · by_cases h3 : a.toNat = 128 * 2 ^ 23
    · have e : FP.fcmp a FP.fconst2 = some .eq := (FP.Core.fcmp_eq_key k1.2 k2.2).mpr (by rw [k1.1, k2.1, e2]; omega)
      rw [e]
      exact ⟨fun h => absurd h (by decide), fun h => absurd h hE⟩
    · have e : FP.fcmp a FP.fconst2 = some .gt := (FP.Core.fcmp_gt_key k1.2 k2.2).mpr (by rw [k1.1, k2.1, e2]; omega)
      rw [e]
      exact ⟨fun h => absurd h (by decide), fun h => absurd h hE⟩
theorem fN_ge1 {a : UInt32} {E t : Nat} (h : fN a E t) : (0 : Int32) ≤ Op.cmpValue (FP.fcmp a FP.fconst1) .g ↔ 127 ≤ E := by
  have k1 := fN_key h
  have k2 := fN_key fN_1
  have e2 : FP.fconst1.toNat = 127 * 2 ^ 23 := by decide
  obtain ⟨h0, ht, h1, h2⟩ := h
  by_cases hE : 127 ≤ E
  · by_cases h3 : a.toNat = 127 * 2 ^ 23
    · have e : FP.fcmp a FP.fconst1 = some .eq := (FP.Core.fcmp_eq_key k1.2 k2.2).mpr (by rw [k1.1, k2.1, e2]; omega)
      rw [e]
      exact ⟨fun _ => hE, fun _ => by decide⟩
    · have e : FP.fcmp a FP.fconst1 = some .gt := (FP.Core.fcmp_gt_key k1.2 k2.2).mpr (by rw [k1.1, k2.1, e2]; omega)
      rw [e]
      exact ⟨fun _ => hE, fun _ => by decide⟩
  · have e : FP.fcmp a FP.fconst1 = some .lt := (FP.Core.fcmp_lt_key k1.2 k2.2).mpr (by rw [k1.1, k2.1, e2]; omega)
    rw [e]
    exact ⟨fun h => absurd h (by decide), fun h => absurd h hE⟩
theorem fN_sh : ∀ E : Fin 255, (nI E.val) <<< ((23 : Int32) &&& 31) = nI (E.val * 2 ^ 23) := by decide +kernel
theorem nI_sub1 {e : Nat} (h : 1 ≤ e) : nI e + (-1) = nI (e - 1) := by
  obtain ⟨f, rfl⟩ : ∃ f, e = f + 1 := ⟨e - 1, by omega⟩
  show Int32.ofNat (f + 1) + (-1) = Int32.ofNat (f + 1 - 1)
  rw [Int32.ofNat_add, Nat.add_sub_cancel, Int32.add_assoc]
  rw [show (Int32.ofNat 1 + (-1)) = 0 by decide, Int32.add_zero]
theorem fN_end {x : UInt32} {e t : Nat} (h : fN x 127 t) (he : e ≤ 254) : (nI e <<< ((23 : Int32) &&& 31)) + ((FP.f2i (FP.fmul x (1258291200 : UInt32))) - 8388608) = nI (e * 2 ^ 23 + t) := by
  have h1 := fN_mul h fN_8m (by omega) (by omega)
  rw [fN_i h1, show nI e <<< ((23 : Int32) &&& 31) = nI (e * 2 ^ 23) from fN_sh ⟨e, by omega⟩]
  show Int32.ofNat (e * 2 ^ 23) + (Int32.ofNat (2 ^ 23 + t) - 8388608) = Int32.ofNat (e * 2 ^ 23 + t)
  rw [Int32.ofNat_add (2 ^ 23) t, Int32.ofNat_add (e * 2 ^ 23) t, show Int32.ofNat (2 ^ 23) = 8388608 by decide, Int32.add_comm 8388608, Int32.add_sub_cancel]
theorem k_lt128 {k : Nat} (h : k < 128) : ¬ (128 : Int32) ≤ nI k := by
  intro h1
  have h2 := Int32.le_iff_toInt_le.mp h1
  have e : (nI k).toInt = (k : Int) := Int32.toInt_ofNat_of_lt (by omega)
  have e2 : (128 : Int32).toInt = 128 := by decide
  rw [e, e2] at h2
  omega
theorem bits_43 {nb : UInt32} {t : Nat} : ∀ (d : Nat) (x : UInt32) (e k fu : Nat), fN x (127 - d) t → d ≤ 126 → d ≤ e → e ≤ 254 → k + d < 128 → d < fu → fX2_bitsOf_43 nb fu x (nI e) (nI k) = nI ((e - d) * 2 ^ 23 + t)
  | 0, x, e, k, fu, h, _, _, he, hk, hf => by
    obtain ⟨fu, rfl⟩ : ∃ g, fu = g + 1 := ⟨fu - 1, by omega⟩
    rw [fX2_bitsOf_43_s, if_neg (k_lt128 (by omega)), if_pos ((fN_ge1 h).mpr (by omega))]
    exact fN_end h he
  | d + 1, x, e, k, fu, h, hd, hde, he, hk, hf => by
    obtain ⟨fu, rfl⟩ : ∃ g, fu = g + 1 := ⟨fu - 1, by omega⟩
    rw [fX2_bitsOf_43_s, if_neg (k_lt128 (by omega)), if_neg (fun hc => by have := (fN_ge1 h).mp hc; omega)]
    have h1 := fN_mul h fN_2 (by omega) (by omega)
    rw [show 127 - (d + 1) + 128 - 127 = 127 - d by omega] at h1
    rw [nI_sub1 (by omega), show nI k + 1 = nI (k + 1) from (Int32.ofNat_add k 1).symm, bits_43 d _ (e - 1) (k + 1) fu h1 (by omega) (by omega) (by omega) (by omega) (by omega)]
    rw [show e - 1 - d = e - (d + 1) by omega]
theorem bits_15 {nb : UInt32} {t : Nat} : ∀ (d : Nat) (x : UInt32) (e k fu : Nat), fN x (127 + d) t → e + d ≤ 254 → k + d < 128 → d < fu → fX2_bitsOf_15 nb fu x (nI e) (nI k) = nI ((e + d) * 2 ^ 23 + t)
  | 0, x, e, k, fu, h, he, hk, hf => by
    obtain ⟨fu, rfl⟩ : ∃ g, fu = g + 1 := ⟨fu - 1, by omega⟩
    rw [fX2_bitsOf_15_s, if_neg (k_lt128 (by omega)), if_pos ((fN_lt2 h).mpr (by omega))]
    exact bits_43 0 x e 0 _ h (by omega) (by omega) (by omega) (by omega) (by decide)
  | d + 1, x, e, k, fu, h, he, hk, hf => by
    obtain ⟨fu, rfl⟩ : ∃ g, fu = g + 1 := ⟨fu - 1, by omega⟩
    rw [fX2_bitsOf_15_s, if_neg (k_lt128 (by omega)), if_neg (fun hc => by have := (fN_lt2 h).mp hc; omega)]
    rw [show nI e + 1 = nI (e + 1) from (Int32.ofNat_add e 1).symm, show nI k + 1 = nI (k + 1) from (Int32.ofNat_add k 1).symm, bits_15 d _ (e + 1) (k + 1) fu (fN_half (E := 127 + d) h (by omega)) (by omega) (by omega) (by omega)]
    rw [show e + 1 + d = e + (d + 1) by omega]
/-- a normal float's bits -/
theorem bits_eq {a : UInt32} {E t : Nat} (h : fN a E t) : fX2_bitsOf a = a.toInt32 := by
  have e0 : a.toInt32 = nI a.toNat := by
    show a.toInt32 = Int32.ofNat a.toNat
    conv => lhs; rw [← UInt32.ofNat_toNat (x := a)]
    rfl
  unfold fX2_bitsOf
  rw [if_pos (fN_pos h), e0, h.1]
  show fX2_bitsOf_15 a 129 a (nI 127) (nI 0) = _
  obtain ⟨h0, ht, h1, h2⟩ := id h
  by_cases hE : 127 ≤ E
  · have h3 : fN a (127 + (E - 127)) t := by rw [show 127 + (E - 127) = E by omega]; exact h
    rw [bits_15 (E - 127) a 127 0 129 h3 (by omega) (by omega) (by omega), show 127 + (E - 127) = E by omega]
  · rw [fX2_bitsOf_15_s, if_neg (k_lt128 (by omega)), if_pos ((fN_lt2 h).mpr (by omega))]
    have h3 : fN a (127 - (127 - E)) t := by rw [show 127 - (127 - E) = E by omega]; exact h
    have h4 := bits_43 (nb := a) (127 - E) a 127 0 129 h3 (by omega) (by omega) (by omega) (by omega) (by omega)
    rw [show 127 - (127 - E) = E by omega] at h4
    exact h4
theorem bits_0 {a : UInt32} (h : a = 0) : fX2_bitsOf a = a.toInt32 := by
  subst h
  have e : FP.fcmp (0 : UInt32) FP.fconst0 = some .eq := (FP.Core.fcmp_eq_key f0_key.2 f0_key.2).mpr rfl
  unfold fX2_bitsOf
  rw [e]
  rfl
/-- what lies between is normal -/
theorem fN_mk {a : UInt32} (h1 : 2 ^ 23 ≤ a.toNat) (h2 : a.toNat < 255 * 2 ^ 23) : ∃ E t, fN a E t := ⟨a.toNat / 2 ^ 23, a.toNat % 2 ^ 23, by omega, by omega, by omega, by omega⟩
theorem bits_is {a : UInt32} (h1 : a = 0 ∨ 2 ^ 23 ≤ a.toNat) (h2 : a.toNat < 255 * 2 ^ 23) : fX2_bitsOf a = a.toInt32 := by
  rcases h1 with h | h
  · exact bits_0 h
  · obtain ⟨E, t, h3⟩ := fN_mk h h2
    exact bits_eq h3
end FBITS
