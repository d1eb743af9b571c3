/-! floats: lower bounds, signs -/
section FLOW
theorem sm_lt {x K : Nat} (h : x % 2 ^ 31 < K * 2 ^ 23) (hlt : x < 2 ^ 31) : x < K * 2 ^ 23 := by rw [Nat.mod_eq_of_lt hlt] at h; exact h
theorem sm_lo {x a b : Nat} (h : b * 2 ^ 23 ≤ x) (hab : a ≤ b) : a * 2 ^ 23 ≤ x := Nat.le_trans (Nat.mul_le_mul_right _ hab) h
theorem sm_hi {x a b : Nat} (h : x < a * 2 ^ 23) (hab : a ≤ b) : x < b * 2 ^ 23 := Nat.lt_of_lt_of_le h (Nat.mul_le_mul_right _ hab)
theorem sm_md {x : Nat} (h : x < 2 ^ 31) : x % 2 ^ 31 = x := Nat.mod_eq_of_lt h
theorem sm_31 {x a : Nat} (h : x < a * 2 ^ 23) (ha : a ≤ 256) : x < 2 ^ 31 := Nat.lt_of_lt_of_le h (Nat.mul_le_mul_right _ ha)
theorem fl_lo {n : UInt32} {A B : Nat} {e : Int} {K : Nat} (hn : FP.Core.val32 n = FP.Core.roundRatio FP.Core.b32 false A B e) (hB : 0 < B) (hK : 1 ≤ K) (hK2 : K ≤ 255) (e0 : Int) (h0 : e0 ≤ -149) (h0e : e0 ≤ e) (h : 2 ^ (22 + K) * 2 ^ (-149 - e0).toNat * B ≤ A * 2 ^ (e - e0).toNat) : K * 2 ^ 23 ≤ n.toNat ∧ n.toNat < 2 ^ 31 := by
  have e1 : FP.Core.b32.qmin = -149 := FP.Core.qmin_b32
  have hnn : FP.Core.val32 n ≠ .nan := by rw [hn]; exact FP.Core.roundRatio_ne_nan _ _ _ _ _
  have hs := FP.Core.sgn_bits32 hnn
  rw [hn, FP.Core.sgn_roundRatio] at hs
  have hlt : n.toNat < 2 ^ 31 := by
    by_cases c : 2 ^ 31 ≤ n.toNat
    · rw [decide_eq_true c] at hs; cases hs
    · omega
  have h1 := FP.Core.mag_ge FP.Core.good_b32 (n := n.toNat) (m := K * 2 ^ 23) hn hB (by rw [e1]; exact h0) h0e (by rw [FP.Core.infBits_b32]; omega) (by
    have h2 := FP.Core.unitsOf_start (f := FP.Core.b32) hK
    rw [FP.Core.tails_b32] at h2
    rw [h2, e1, ← Nat.pow_add, show 23 + (K - 1) = 22 + K by omega]
    exact h)
  rw [FP.Core.mag_toNat32] at h1
  exact ⟨by omega, hlt⟩
theorem fN_c {E t : Nat} (ht : t < 2 ^ 23) : 2 ^ 23 ≤ 2 ^ 23 + t ∧ 2 ^ 23 + t < 2 ^ 24 := by omega
theorem fN_divlo {a b : UInt32} {E F t u : Nat} (ha : fN a E t) (hb : fN b F u) (h : F ≤ E + 125) : (E + 126 - F) * 2 ^ 23 ≤ (FP.fdiv a b).toNat ∨ 255 < E + 126 - F := by
  by_cases c : E + 126 - F ≤ 255
  · left
    obtain ⟨-, ht, hE1, hE2⟩ := id ha
    obtain ⟨-, hu, hF1, hF2⟩ := id hb
    have hv : FP.Core.val32 (FP.fdiv a b) = FP.Core.roundRatio FP.Core.b32 false (2 ^ 23 + t) (2 ^ 23 + u) (((E : Int) - 150) - ((F : Int) - 150)) := by
      rw [FP.Core.val32_fdiv, fN_val ha, fN_val hb]
      show (if 2 ^ 23 + u = 0 then (if 2 ^ 23 + t = 0 then FP.Core.Datum.nan else .inf (false != false)) else FP.Core.roundRatio FP.Core.b32 (false != false) (2 ^ 23 + t) (2 ^ 23 + u) (((E : Int) - 150) - ((F : Int) - 150))) = _
      rw [if_neg (by omega)]
      rfl
    refine (fl_lo hv (by omega) (by omega) c (-600) (by decide) (by omega) ?_).1
    rw [show ((-149 : Int) - -600).toNat = 451 by decide, show ((((E : Int) - 150) - ((F : Int) - 150)) - -600).toNat = (22 + (E + 126 - F) + 451) + 1 by omega, ← Nat.pow_add]
    generalize 22 + (E + 126 - F) + 451 = M
    show 2 ^ M * (2 ^ 23 + u) ≤ (2 ^ 23 + t) * (2 ^ M * 2)
    rw [Nat.mul_comm (2 ^ 23 + t), Nat.mul_assoc]
    exact Nat.mul_le_mul_left _ (by omega)
  · right; omega
theorem fN_divlt {a b : UInt32} {E F t u : Nat} (ha : fN a E t) (hb : fN b F u) : (FP.fdiv a b).toNat < 2 ^ 31 := by
  obtain ⟨-, hu, hF1, hF2⟩ := id hb
  obtain ⟨-, ht, hE1, hE2⟩ := id ha
  have hv : FP.Core.val32 (FP.fdiv a b) = FP.Core.roundRatio FP.Core.b32 false (2 ^ 23 + t) (2 ^ 23 + u) (((E : Int) - 150) - ((F : Int) - 150)) := by
    rw [FP.Core.val32_fdiv, fN_val ha, fN_val hb]
    show (if 2 ^ 23 + u = 0 then (if 2 ^ 23 + t = 0 then FP.Core.Datum.nan else .inf (false != false)) else FP.Core.roundRatio FP.Core.b32 (false != false) (2 ^ 23 + t) (2 ^ 23 + u) (((E : Int) - 150) - ((F : Int) - 150))) = _
    rw [if_neg (by omega)]
    rfl
  have hnn : FP.Core.val32 (FP.fdiv a b) ≠ .nan := by rw [hv]; exact FP.Core.roundRatio_ne_nan _ _ _ _ _
  have hs := FP.Core.sgn_bits32 hnn
  rw [hv, FP.Core.sgn_roundRatio] at hs
  by_cases c : 2 ^ 31 ≤ (FP.fdiv a b).toNat
  · rw [decide_eq_true c] at hs; cases hs
  · omega
theorem fN_mullo {a b : UInt32} {E F t u : Nat} (ha : fN a E t) (hb : fN b F u) (h : 128 ≤ E + F) (h2 : E + F ≤ 382) : (E + F - 127) * 2 ^ 23 ≤ (FP.fmul a b).toNat ∧ (FP.fmul a b).toNat < 2 ^ 31 := by
  obtain ⟨-, ht, hE1, hE2⟩ := id ha
  obtain ⟨-, hu, hF1, hF2⟩ := id hb
  have hv : FP.Core.val32 (FP.fmul a b) = FP.Core.roundRatio FP.Core.b32 false ((2 ^ 23 + t) * (2 ^ 23 + u)) 1 (((E : Int) - 150) + ((F : Int) - 150)) := by
    rw [FP.Core.val32_fmul, fN_val ha, fN_val hb]
    rfl
  refine fl_lo hv (by omega) (by omega) (by omega) (-600) (by decide) (by omega) ?_
  have h46 : 2 ^ 23 * 2 ^ 23 ≤ (2 ^ 23 + t) * (2 ^ 23 + u) := Nat.mul_le_mul (by omega) (by omega)
  rw [show ((-149 : Int) - -600).toNat = 451 by decide, show ((((E : Int) - 150) + ((F : Int) - 150)) - -600).toNat = E + F + 300 by omega, Nat.mul_one, ← Nat.pow_add, show 22 + (E + F - 127) + 451 = 46 + (E + F + 300) by omega, Nat.pow_add 2 46]
  exact Nat.mul_le_mul_right _ h46
theorem fN_addlo {a b : UInt32} {E F t u : Nat} (ha : fN a E t) (hb : fN b F u) : E * 2 ^ 23 ≤ (FP.fadd a b).toNat ∧ (FP.fadd a b).toNat < 2 ^ 31 := by
  obtain ⟨-, ht, hE1, hE2⟩ := id ha
  obtain ⟨-, hu, hF1, hF2⟩ := id hb
  obtain ⟨e, he⟩ : ∃ e, e = min ((E : Int) - 150) ((F : Int) - 150) := ⟨_, rfl⟩
  have hc : 2 ^ 23 * 2 ^ (((E : Int) - 150) - e).toNat ≤ FP.Core.inUnits (2 ^ 23 + t) ((E : Int) - 150) e := Nat.mul_le_mul_right _ (by omega)
  have hv : FP.Core.val32 (FP.fadd a b) = FP.Core.roundRatio FP.Core.b32 (FP.Core.sumSign false false (FP.Core.sumUnits false (2 ^ 23 + t) ((E : Int) - 150) false (2 ^ 23 + u) ((F : Int) - 150) e)) (FP.Core.sumUnits false (2 ^ 23 + t) ((E : Int) - 150) false (2 ^ 23 + u) ((F : Int) - 150) e).natAbs 1 e := by
    rw [FP.Core.val32_fadd, fN_val ha, fN_val hb, he]
    rfl
  have hz : FP.Core.sumUnits false (2 ^ 23 + t) ((E : Int) - 150) false (2 ^ 23 + u) ((F : Int) - 150) e = ((FP.Core.inUnits (2 ^ 23 + t) ((E : Int) - 150) e + FP.Core.inUnits (2 ^ 23 + u) ((F : Int) - 150) e : Nat) : Int) := rfl
  have hp : 0 < 2 ^ 23 * 2 ^ (((E : Int) - 150) - e).toNat := Nat.mul_pos (by decide) (Nat.two_pow_pos _)
  rw [hz] at hv
  generalize FP.Core.inUnits (2 ^ 23 + t) ((E : Int) - 150) e = X at hv hc
  generalize FP.Core.inUnits (2 ^ 23 + u) ((F : Int) - 150) e = Y at hv
  rw [show FP.Core.sumSign false false ((X + Y : Nat) : Int) = false by
    unfold FP.Core.sumSign
    rw [if_neg (by omega)]
    exact decide_eq_false (by omega), Int.natAbs_natCast] at hv
  refine fl_lo hv (by decide) hE1 (by omega) (-149) (by decide) (by omega) ?_
  rw [show ((-149 : Int) - -149).toNat = 0 by decide, Nat.pow_zero, Nat.mul_one, Nat.mul_one]
  have h1 : 2 ^ (22 + E) = (2 ^ 23 * 2 ^ (((E : Int) - 150) - e).toNat) * 2 ^ (e - -149).toNat := by
    rw [← Nat.pow_add, ← Nat.pow_add]
    congr 1
    omega
  rw [h1]
  exact Nat.mul_le_mul_right _ (by omega)
theorem fz_eq {a : UInt32} (h : FP.Core.val32 a = .fin false 0 FP.Core.b32.qmin) : a = 0 := FP.Core.val32_inj (by rw [h]; exact fun h => nomatch h) (h.trans FP.Core.val32_fconst0.symm)
theorem fz_mul {b : UInt32} {F u : Nat} (hb : fN b F u) : FP.fmul 0 b = 0 := by
  refine fz_eq ?_
  rw [FP.Core.val32_fmul, fN_val hb, show FP.Core.val32 0 = _ from FP.Core.val32_fconst0]
  show FP.Core.roundRatio FP.Core.b32 (false != false) (0 * (2 ^ 23 + u)) 1 _ = _
  rw [Nat.zero_mul]
  rfl
theorem fz_div {b : UInt32} {F u : Nat} (hb : fN b F u) : FP.fdiv 0 b = 0 := by
  refine fz_eq ?_
  rw [FP.Core.val32_fdiv, fN_val hb, show FP.Core.val32 0 = _ from FP.Core.val32_fconst0]
  show (if 2 ^ 23 + u = 0 then (if 0 = 0 then FP.Core.Datum.nan else .inf (false != false)) else FP.Core.roundRatio FP.Core.b32 (false != false) 0 (2 ^ 23 + u) _) = _
  rw [if_neg (by omega)]
  rfl
/-- zero, or within bounds -/
def fG (a : UInt32) (lo hi : Nat) : Prop := a = 0 ∨ (lo * 2 ^ 23 ≤ a.toNat ∧ a.toNat < hi * 2 ^ 23)
theorem fG_N {a : UInt32} {lo hi : Nat} (h : lo * 2 ^ 23 ≤ a.toNat ∧ a.toNat < hi * 2 ^ 23) (h1 : 1 ≤ lo) (h2 : hi ≤ 255) : ∃ E t, fN a E t ∧ lo ≤ E ∧ E < hi := by
  have h3 := h.1
  have h4 := h.2
  exact ⟨a.toNat / 2 ^ 23, a.toNat % 2 ^ 23, ⟨by omega, by omega, by omega, by omega⟩, by omega, by omega⟩
theorem fG_m {a : UInt32} {lo hi : Nat} (h : fG a lo hi) (h1 : 1 ≤ hi) : fm a hi := by
  rcases h with h | h
  · rw [h]; exact fm_0 h1
  · have h2 := h.2
    show a.toNat % 2 ^ 31 < _
    exact Nat.lt_of_le_of_lt (Nat.mod_le _ _) h2
theorem i2f_N {n j : Nat} (h0 : 1 ≤ n) (hj : n ≤ 2 ^ j) (h : j ≤ 30) : ∃ E t, fN (FP.i2f (nI n)) E t ∧ 127 ≤ E ∧ E ≤ 127 + j := by
  have hn : n < 2 ^ 31 := Nat.lt_of_le_of_lt hj (Nat.pow_lt_pow_right (by decide) (by omega))
  have e : (nI n).toInt = (n : Int) := nI_toInt hn
  have hv : FP.Core.val32 (FP.i2f (nI n)) = FP.Core.roundRatio FP.Core.b32 false n 1 0 := by
    rw [FP.Core.val32_i2f, e]
    show FP.Core.roundRatio FP.Core.b32 (decide ((n : Int) < 0)) (n : Int).natAbs 1 0 = _
    rw [decide_eq_false (by omega), Int.natAbs_natCast]
  have h1 := fl_lo (K := 127) hv (by decide) (by decide) (by decide) (-149) (by decide) (by decide) (by
    rw [show ((-149 : Int) - -149).toNat = 0 by decide, show ((0 : Int) - -149).toNat = 149 by decide, Nat.pow_zero, Nat.mul_one, Nat.mul_one]
    exact Nat.le_mul_of_pos_left _ h0)
  have h2 := FP.Core.fromInt_mag32 (a := FP.i2f (nI n)) (FP.Core.toNat_i2f (nI n)) (j := j) (K := 127 + j) (by rw [e, Int.natAbs_natCast]; exact hj) (by omega) (by omega)
  have h3 := h1.1
  have h4 := h1.2
  generalize (FP.i2f (nI n)) = a at h2 h3 h4 ⊢
  exact ⟨a.toNat / 2 ^ 23, a.toNat % 2 ^ 23, ⟨by omega, by omega, by omega, by omega⟩, by omega, by omega⟩
theorem i2f_0 : FP.i2f (nI 0) = 0 := by decide +kernel
/-- a weight, or a rate -/
theorem dv_G {p d : Nat} (hp : p ≤ 2 ^ 14) (h1 : 1 ≤ d) (hd : d ≤ 2 ^ 5) : fG (FP.fdiv (FP.i2f (nI p)) (FP.i2f (nI d))) 121 161 := by
  obtain ⟨F, u, hF, f1, f2⟩ := i2f_N h1 hd (by decide)
  rcases Nat.eq_zero_or_pos p with rfl | hp0
  · left
    rw [i2f_0]
    exact fz_div hF
  · right
    obtain ⟨E, t, hE, e1, e2⟩ := i2f_N hp0 hp (by decide)
    have hlt := fN_divlt hE hF
    have hm := fm_div (x := nI p) (y := nI d) (by rw [nI_toInt (by omega)]; omega)
    refine ⟨?_, sm_lt hm hlt⟩
    rcases fN_divlo hE hF (by omega) with h | h
    · exact sm_lo h (by omega)
    · exact absurd h (by omega)
theorem ml_G {w : UInt32} {d : Nat} (hw : fG w 121 161) (h1 : 1 ≤ d) (hd : d ≤ 2 ^ 5) : fG (FP.fmul w (FP.i2f (nI d))) 121 195 := by
  obtain ⟨F, u, hF, f1, f2⟩ := i2f_N h1 hd (by decide)
  rcases id hw with rfl | h
  · left; exact fz_mul hF
  · right
    obtain ⟨E, t, hE, e1, e2⟩ := fG_N h (by decide) (by decide)
    have h2 := fN_mullo hE hF (by omega) (by omega)
    have h3 : (FP.fmul w (FP.i2f (nI d))).toNat % 2 ^ 31 < 195 * 2 ^ 23 := fm_mul (fG_m hw (by decide)) (fm_i _)
    exact ⟨sm_lo h2.1 (by omega), sm_lt h3 h2.2⟩
theorem f0_add {x : UInt32} {hi : Nat} (h : fG x 121 hi) (hh : hi ≤ 255) : FP.fadd x 0 = x := by
  refine FP.Core.fadd_zero ?_ ?_
  · rcases h with rfl | h
    · exact f0_key.2
    · obtain ⟨E, t, hE, -⟩ := fG_N h (by decide) hh
      exact (fN_key hE).2
  · intro hc
    rw [hc] at h
    rcases h with h | h
    · exact absurd h (by decide)
    · have h1 := h.2
      have e : FP.Core.fzeroNeg.toNat = 2 ^ 31 := by decide
      rw [e] at h1
      omega
theorem ad_G {x w : UInt32} {n : Nat} (hx : fG x 121 (195 + 2 * n)) (hw : fG w 121 195) (hn : n ≤ 20) : fG (FP.fadd x w) 121 (195 + 2 * (n + 1)) := by
  rcases id hw with rfl | h
  · rw [f0_add hx (by omega)]
    rcases hx with h | h
    · exact Or.inl h
    · exact Or.inr ⟨h.1, sm_hi h.2 (by omega)⟩
  · rcases id hx with rfl | h'
    · rw [show FP.fadd 0 w = w from (FP.Core.fadd_comm 0 w).trans (f0_add hw (by decide))]
      exact Or.inr ⟨h.1, sm_hi h.2 (by omega)⟩
    · right
      obtain ⟨E, t, hE, e1, e2⟩ := fG_N h' (by decide) (by omega)
      obtain ⟨F, u, hF, f1, f2⟩ := fG_N h (by decide) (by decide)
      have h2 := fN_addlo hE hF
      have h3 : (FP.fadd x w).toNat % 2 ^ 31 < (195 + 2 * (n + 1)) * 2 ^ 23 := fm_up (K := 195) (n := n) (fG_m hx (by omega)) (fG_m hw (by decide)) (by decide) (by omega) rfl
      exact ⟨sm_lo h2.1 e1, sm_lt h3 h2.2⟩
theorem dv_bits {p d : Nat} (hp : p ≤ 2 ^ 14) (h1 : 1 ≤ d) (hd : d ≤ 2 ^ 5) : fX2_bitsOf (FP.fdiv (FP.i2f (nI p)) (FP.i2f (nI d))) = (FP.fdiv (FP.i2f (nI p)) (FP.i2f (nI d))).toInt32 := by
  have h := dv_G hp h1 hd
  generalize FP.fdiv (FP.i2f (nI p)) (FP.i2f (nI d)) = a at h ⊢
  rcases h with h | h
  · exact bits_is (Or.inl h) (by rw [h]; decide)
  · have h2 := h.1
    have h3 := h.2
    exact bits_is (Or.inr (sm_lo (a := 1) h2 (by decide))) (sm_hi h3 (by decide))
theorem pt_bits {x y : UInt32} (hx : fG x 121 220) (hy : fG y 121 220) (h0 : y ≠ 0) : fX2_bitsOf (FP.fdiv x y) = (FP.fdiv x y).toInt32 := by
  rcases hy with hy | hy
  · exact absurd hy h0
  · obtain ⟨F, u, hF, f1, f2⟩ := fG_N hy (by decide) (by decide)
    rcases id hx with rfl | h
    · exact bits_is (Or.inl (fz_div hF)) (by rw [show FP.fdiv 0 y = 0 from fz_div hF]; decide)
    · obtain ⟨E, t, hE, e1, e2⟩ := fG_N h (by decide) (by decide)
      have hlt := fN_divlt hE hF
      have hm := FP.Core.fdiv_mag (a := x) (b := y) (K := 220) (L := 121) (fG_m hx (by decide)) (by rw [sm_md (sm_31 hy.2 (by decide))]; exact hy.1) (by rw [sm_md (sm_31 hy.2 (by decide))]; exact sm_hi hy.2 (by decide)) (by decide) (by decide)
      have hlo := fN_divlo hE hF (by omega)
      have hm : (FP.fdiv x y).toNat % 2 ^ 31 < (220 + (149 - 23 - 1) - 121 + 3) * 2 ^ 23 := hm
      refine bits_is (Or.inr ?_) (sm_hi (sm_lt hm hlt) (by decide))
      rcases hlo with h1 | h1
      · exact sm_lo (a := 1) h1 (by omega)
      · exact absurd h1 (by omega)
theorem fG_cmp0 {y : UInt32} {hi : Nat} (h : fG y 121 hi) (hh : hi ≤ 255) : ((0 : Int32) < Op.cmpValue (FP.fcmp y FP.fconst0) .l ↔ y ≠ 0) ∧ (Op.cmpValue (FP.fcmp y FP.fconst0) .l = 0 ↔ y = 0) := by
  rcases h with rfl | h
  · have e : FP.fcmp (0 : UInt32) FP.fconst0 = some .eq := (FP.Core.fcmp_eq_key f0_key.2 f0_key.2).mpr rfl
    rw [e]
    exact ⟨⟨fun h => absurd h (by decide), fun h => absurd rfl h⟩, ⟨fun _ => rfl, fun _ => by decide⟩⟩
  · obtain ⟨E, t, hE, -⟩ := fG_N h (by decide) hh
    have h0 : y ≠ 0 := by
      intro hc
      have h1 := h.1
      rw [hc] at h1
      exact absurd h1 (by decide)
    have hp := fN_pos hE
    refine ⟨⟨fun _ => h0, fun _ => hp⟩, ⟨fun hc => ?_, fun hc => absurd hc h0⟩⟩
    rw [hc] at hp
    exact absurd hp (by decide)
end FLOW
