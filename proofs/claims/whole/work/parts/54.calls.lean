/-! a call: what is counted -/
def cntA (RA : Nat → Int32) (a : Nat) (dy time who : Int32) : Nat → Int32 := upd (upd (upd (upd (upd (upd RA (iA a 2) (RA (iA a 2) + 1)) (iA a 4) dy) (iA a 5) time) (iA a 9) who) (iA a 6) (-4)) (iA a 7) (-4)
def cntI (RI : Nat → Int32) (w : Nat) (x : Int32) : Nat → Int32 := if RI (iI w 0) = x then upd (upd RI (iI w 2) (RI (iI w 2) + 1)) (iI w 3) (RI (iI w 3) + 1) else upd (upd (upd RI (iI w 2) (RI (iI w 2) + 1)) (iI w 3) (RI (iI w 3) + 1)) (iI w 5) (RI (iI w 5) + 1)
def cntS (S : Nat → Int32) (w a : Nat) (time : Int32) : Nat → Int32 := upd (upd (upd (upd (upd (upd (upd (upd (upd S (iP a 2) (S (iP a 2) + 1)) (iP a 4) (S 2)) (iP a 5) time) (iP a 6) 0) (iP a 9) (nI w)) (iW w 2) (S (iW w 2) + 1)) (iW w 3) (S (iW w 3) + 1)) (iW w 5) (S (iW w 5) + (if S (iW w 0) = S (iP a 0) then 0 else 1))) 3 (S 3 + 1)
theorem counts_c {RA RI : Nat → Int32} {dy time : Int32} {w a : Nat} (hw : w < 5) (ha : a < 24) : fX5_noteCall RA RI dy (nI w) (nI a) time = (cntA RA a dy time (nI w), cntI RI w (RA (iA a 0))) := by
  unfold fX5_noteCall
  simp only [bd_1]
  rw [nA_2 ha, pA_4 ha, pA_5 ha, pA_9 ha, pA_6 ha, pA_7 ha, nI_2n hw, nI_3n hw, gA_0 ha, gI_0 hw, nI_5n hw]
  have e1 : (upd (upd (upd (upd (upd (upd RA (iA a 2) (RA (iA a 2) + 1)) (iA a 4) dy) (iA a 5) time) (iA a 9) (nI w)) (iA a 6) (-4)) (iA a 7) (-4)) (iA a 0) = RA (iA a 0) := by simp [u_AA]
  have e2 : (upd (upd RI (iI w 2) (RI (iI w 2) + 1)) (iI w 3) (upd RI (iI w 2) (RI (iI w 2) + 1) (iI w 3) + 1)) (iI w 0) = RI (iI w 0) := by simp [u_II]
  have e3 : upd RI (iI w 2) (RI (iI w 2) + 1) (iI w 3) = RI (iI w 3) := by simp [u_II]
  have e5 : (upd (upd RI (iI w 2) (RI (iI w 2) + 1)) (iI w 3) (RI (iI w 3) + 1)) (iI w 5) = RI (iI w 5) := by simp [u_II]
  rw [e1, e2, e3, e5]
  unfold cntI
  by_cases e : RI (iI w 0) = RA (iA a 0)
  · rw [if_pos e, if_pos e]; rfl
  · rw [if_neg e, if_neg e]; rfl
theorem counts_m {S : Nat → Int32} {time : Int32} {w a : Nat} (hw : w < 5) (ha : a < 24) : fX9_counts S (nI w) (nI a) time = cntS S w a time := by
  unfold fX9_counts cntS
  simp only [bd_1]
  simp only [tP_2 ha, tP_4 ha, tP_5 ha, tP_6 ha, tP_9 ha, tW_2 hw, tW_3 hw, tW_5 hw, oW_0 hw, oP_0 ha]
  by_cases e : S (iW w 0) = S (iP a 0)
  · simp [u_PP, u_WW, u_nP, u_nW, u_PW hw, u_WP hw, u_Pn, u_Wn, e]
  · simp [u_PP, u_WW, u_nP, u_nW, u_PW hw, u_WP hw, u_Pn, u_Wn, e]
theorem asked_eq {S : Nat → Int32} {n k : Nat} (s0 : S 0 = nI n) (s1 : S 1 = nI k) (who adr time : Int32) : fX5_isCallNamed (nI n) (nI k) who adr time = fX9_isAsked S who adr time := by
  unfold fX5_isCallNamed fX9_isAsked fX5_hasInterviewer fX5_hasAddress fX9_isStaff fX9_isAddress fX8_isTime
  rw [in_eq]
  simp only [bd_1]
  rw [s0, s1]
theorem asked_idx {S : Nat → Int32} {n k : Nat} (hn : n ≤ 24) (hk : k ≤ 5) (s0 : S 0 = nI n) (s1 : S 1 = nI k) {who adr time : Int32} (h : fX9_isAsked S who adr time = true) : ∃ w a, w < k ∧ a < n ∧ who = nI w ∧ adr = nI a ∧ fX9_in time 0 2 = true := by
  unfold fX9_isAsked fX9_isStaff fX9_isAddress at h
  simp only [bd_1] at h
  rw [s0, s1] at h
  by_cases c1 : fX9_in who 0 (nI k - 1) = true
  · rw [if_pos c1] at h
    by_cases c2 : fX9_in adr 0 (nI n - 1) = true
    · rw [if_pos c2] at h
      by_cases c3 : fX9_in time 0 2 = true
      · obtain ⟨w, hw, rfl⟩ := idx_of (by omega) c1
        obtain ⟨a, ha, rfl⟩ := idx_of hn c2
        exact ⟨w, a, hw, ha, rfl, rfl, c3⟩
      · rw [if_neg c3] at h; cases h
    · rw [if_neg c2] at h; cases h
  · rw [if_neg c1] at h; cases h
theorem rng0 {x : Int32} {hi : Int} (h : rng x 0 hi) (h0 : ¬ x = 0) : ¬ x ≤ 0 := by
  intro q
  have q := Int32.le_iff_toInt_le.mp q
  have e0 : (0 : Int32).toInt = 0 := by decide
  rw [e0] at q
  exact h0 (Int32.toInt_inj.mp (by rw [e0]; have := h.1; omega))
theorem m1_ne {x : Int32} {hi : Int} (h : rng x 0 hi) (hh : hi < 2 ^ 31) (h0 : ¬ x = 0) : (x - 1).toInt = x.toInt - 1 ∧ 0 ≤ (x - 1).toInt := by
  have e1 : (1 : Int32).toInt = 1 := by decide
  have e0 : (0 : Int32).toInt = 0 := by decide
  have hx : ¬ x.toInt = 0 := fun e => h0 (Int32.toInt_inj.mp (by rw [e0, e]))
  obtain ⟨g1, g2⟩ := h
  have : (x - 1).toInt = x.toInt - 1 := by
    rw [Int32.toInt_sub, e1]
    apply Int.bmod_eq_of_le <;> omega
  exact ⟨this, by omega⟩
theorem ne_m4 {x : Int32} (h : 0 ≤ x.toInt) : ¬ x = -4 := by
  intro e
  rw [e] at h
  exact absurd h (by decide)
theorem fixed_eq {RA S : Nat → Int32} {a B : Nat} (ha : a < 24) (h : rowR RA S a) (hK : rowK S B a) : fX5_hasMeeting RA (nI a) = fX9_isFixed S (nI a) := by
  obtain ⟨⟨r0, r1, r2, r3⟩, ⟨r4, r5, r9⟩, ⟨r6, r7⟩, r8⟩ := h
  obtain ⟨k0, k1, k6, k2, k3⟩ := hK
  unfold fX5_hasMeeting fX9_isFixed fX9_isOpen
  simp only [bd_1]
  rw [gA_6 ha, oP_1 ha, oP_6 ha, r6]
  by_cases c6 : S (iP a 6) = 0
  · rw [if_pos c6, if_pos rfl, c6]
    by_cases c1 : S (iP a 1) = 0
    · simp [c1]
    · simp [c1]
  · have c1 : S (iP a 1) = 0 := Classical.byContradiction fun q => c6 (k1 q)
    rw [if_neg c6, if_neg (ne_m4 (m1_ne k6 (by decide) c6).2)]
    simp [c1, rng0 k6 c6]
theorem open_eq {RA S : Nat → Int32} {a : Nat} (ha : a < 24) (h : rowR RA S a) : fX5_isOpen RA (nI a) = fX9_isOpen S (nI a) := by
  unfold fX5_isOpen fX9_isOpen
  simp only [bd_1]
  rw [gA_1 ha, oP_1 ha, h.1.2.1]
theorem over_eq {RA S : Nat → Int32} {dy : Int32} {a B : Nat} (ha : a < 24) (h : rowR RA S a) (hK : rowK S B a) (s2 : S 2 = dy) : fX5_isMeetingOver RA dy (nI a) = fX9_isOver S (nI a) := by
  have hf := fixed_eq ha h hK
  unfold fX5_isMeetingOver fX9_isOver
  unfold fX5_hasMeeting at hf
  simp only [bd_1] at hf ⊢
  rw [← hf, oP_6 ha, s2]
  obtain ⟨-, -, ⟨r6, r7⟩, r8⟩ := h
  obtain ⟨k0, k1, k6, k2, k3⟩ := hK
  rw [gA_6 ha, r6]
  by_cases c6 : S (iP a 6) = 0
  · simp [c6]
  · rw [if_neg c6, if_neg (ne_m4 (m1_ne k6 (by decide) c6).2), if_neg (ne_m4 (m1_ne k6 (by decide) c6).2), if_pos rfl]
theorem may_eq {RA RI S : Nat → Int32} {dy vl db time : Int32} {w a n k B : Nat} (hw : w < 5) (ha : a < 24) (hB : B < 2 ^ 31 - 1) (h : rowR RA S a) (hK : rowK S B a) (hi : stR RI S w) (s2 : S 2 = dy) (s7 : S 7 = db) : fX5_isPossible RA RI dy db (nI w) (nI a) time = fX9_mayCall S (nI w) (nI a) time := by
  have ho := open_eq ha h
  have hf := fixed_eq ha h hK
  have hv := over_eq ha h hK s2
  unfold fX5_isPossible fX9_mayCall
  simp only [bd_1]
  rw [gI_2 hw, gI_1 hw, oW_2 hw, oW_1 hw, ho, hi 2 (by decide), hi 1 (by decide)]
  by_cases c1 : fX9_isOpen S (nI a) = true
  · rw [if_pos c1, if_pos c1]
    by_cases c2 : S (iW w 1) ≤ S (iW w 2)
    · rw [if_pos c2, if_neg (show ¬ S (iW w 2) < S (iW w 1) from Int32.not_lt.mpr c2)]
    · rw [if_neg c2, if_pos (show S (iW w 2) < S (iW w 1) from Int32.not_le.mp c2), ← hf, ← hv]
      obtain ⟨⟨r0, r1, r2, r3⟩, ⟨r4, r5, r9⟩, ⟨r6, r7⟩, r8⟩ := h
      obtain ⟨k0, k1, k6, k2, k3⟩ := hK
      unfold fX5_isTimely fX5_hasMeeting fX5_isMeetingOver
      simp only [bd_1]
      rw [gA_6 ha, gA_2 ha, gA_5 ha, gA_4 ha, gA_7 ha, oP_2 ha, oP_5 ha, oP_4 ha, oP_6 ha, oP_7 ha, r6, r2, r5, r4, r7, s2, s7]
      by_cases c6 : S (iP a 6) = 0
      · rw [if_pos c6, if_pos rfl, if_pos rfl]
        by_cases c3 : S (iP a 2) = 0
        · simp [c3]
        · rw [if_neg c3, if_neg c3, if_neg c3, if_neg c3]
          by_cases ct : S (iP a 5) = time
          · rw [if_pos ct]; simp
          · rw [if_neg ct]
            by_cases cd : dy - S (iP a 4) < db
            · rw [if_pos cd]; simp
            · rw [if_neg cd]; simp
      · rw [if_neg c6, if_neg c6, if_neg (ne_m4 (m1_ne k6 (by decide) c6).2), if_neg (ne_m4 (m1_ne k6 (by decide) c6).2), if_neg (ne_m4 (m1_ne k6 (by decide) c6).2), if_pos rfl]
        by_cases c4 : dy ≤ S (iP a 6) - 1
        · rw [if_pos c4]
          have c4' : ¬ S (iP a 6) - 1 < dy := Int32.not_lt.mpr c4
          by_cases c5 : S (iP a 6) - 1 = dy
          · simp [c4', c5]
          · simp [c4', c5]
        · rw [if_neg c4]
          have c4' : S (iP a 6) - 1 < dy := Int32.not_le.mp c4
          simp [c4']
  · rw [if_neg c1, if_neg c1]
